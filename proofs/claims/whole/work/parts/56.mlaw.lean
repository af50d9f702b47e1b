/-! ===== the reference: its laws, results ===== -/
/-- the reference's reader's rows -/
def MrSh (S : Nat → Option (Nat × Nat)) (V : Nat → Nat → Option Nat) (g : Nat) : Prop := V g 21 = some (g + 19) ∧ V g 22 = some (g + 20) ∧ V g 32 = some (g + 21) ∧ V g 33 = some (g + 22) ∧ V g 34 = some (g + 23) ∧ V g 35 = some (g + 24) ∧ V g 36 = some (g + 25) ∧ V g 37 = some (g + 26) ∧ V g 39 = some (g + 27) ∧ S (g + 19) = some (10, 0) ∧ S (g + 20) = some (101, 400) ∧ S (g + 21) = some (100, 9) ∧ S (g + 22) = some (100, 108) ∧ S (g + 23) = some (100, 108) ∧ S (g + 24) = some (100, 432) ∧ S (g + 25) = some (100, 432) ∧ S (g + 26) = some (102, 432) ∧ S (g + 27) = some (100, 44)
theorem inB_of {x y z : Int32} (h : inB x y z = true) : y ≤ x ∧ x ≤ z := by simpa [inB] using h
def mLaw (I : Mem) (g k : Nat) (x y : Int32) : Int32 := match ixI x k with
  | none => -1
  | some i => if inB y 0 3 = true then I (g + 27) (4 * i + y.toNatClampNeg) else -1
set_option maxHeartbeats 2000000 in
set_option maxRecDepth 20000 in
/-- SledHouseModel.law -/
theorem c_mLaw {E : Ev} (GE : Glob E) (S : Nat → Option (Nat × Nat)) (I : Nat → Nat → Int32) (V : Nat → Nat → Option Nat) (J : Nat → Nat → Int64) (N : Nat) (g k : Nat) (x y : Int32) (hM : MdSh S V g) (hR : MrSh S V g) (h0 : I g 0 = 0) (hk : I g 38 = nI k) (hk10 : k ≤ 10) : Ct E yX13_law cX13_law 3 (some .int) (rmL 1) [.ref g, .int x, .int y] (S, I, V, J, N) (fun v w' => v = some (.int (mLaw I g k x y)) ∧ w' = (S, I, V, J, N)) := by
  refine Ct.start GE (by decide) rfl (Nat.le_of_ble_eq_true rfl) (fun M X => ?_)
  have X : Cx E M RX13 cX13_law 3 (rmL 1) (some .int) "law" := X
  refine r_loc (L' := [some (.ref g), some (.int x), some (.int y)]) rfl ?_
  obtain ⟨hs0, v8, v9, v10, v11, v16, v17, v18, v19, v20, s1, s2, s3, s4, s5, s6, s7, s8, hOt, hTe, hKt⟩ := id hM
  obtain ⟨v21, v22, v32, v33, v34, v35, v36, v37, v39, s19, s20, s21, s22, s23, s24, s25, s26, s27⟩ := id hR
  rcases hx : ixI x k with _ | i
  · skip
    refine r_aload_n X dX13_law_0 rfl rfl ?_
    refine r_iconst (v := 0) X dX13_law_1 (by decide) ?_
    refine r_putI X dX13_law_2 fX13_1 wX13_1 (by assumption) rfl rfl ?_
    refine r_world (w' := (S, I, V, J, N)) (by rw [up2_id I h0]) ?_
    refine r_iload_n X dX13_law_5 rfl rfl ?_
    refine r_if_lt (tgt := 39) X dX13_law_6 (by decide) (fun h6 => ?_) (fun h6 => ?_)
    · skip
      refine r_iconst (v := -1) X dX13_law_39 (by decide) ?_
      refine r_ireturn X dX13_law_40 rfl (by first | omega | decide | (simp only [rmL, rmA]; omega)) (by first | omega | decide | (simp only [rmL, rmA]; omega)) ?_
      exact ⟨by simp [mLaw, hx], rfl⟩
    · skip
      refine r_iload_n X dX13_law_9 rfl rfl ?_
      refine r_aload_n X dX13_law_10 rfl rfl ?_
      refine r_getI X dX13_law_11 fX13_250 (by assumption) (by first | assumption | rfl) ?_
      refine r_icmp_ge (tgt := 39) X dX13_law_14 (by decide) (fun h14 => ?_) (fun h14 => ?_)
      · skip
        refine r_iconst (v := -1) X dX13_law_39 (by decide) ?_
        refine r_ireturn X dX13_law_40 rfl (by first | omega | decide | (simp only [rmL, rmA]; omega)) (by first | omega | decide | (simp only [rmL, rmA]; omega)) ?_
        exact ⟨by simp [mLaw, hx], rfl⟩
      · skip
        exact ((ixI_none hx).elim (fun z => h6 z) (fun z => h14 z)).elim
  · skip
    obtain ⟨hi, rfl⟩ := ixI_some (by omega) hx
    refine r_aload_n X dX13_law_0 rfl rfl ?_
    refine r_iconst (v := 0) X dX13_law_1 (by decide) ?_
    refine r_putI X dX13_law_2 fX13_1 wX13_1 (by assumption) rfl rfl ?_
    refine r_world (w' := (S, I, V, J, N)) (by rw [up2_id I h0]) ?_
    refine r_iload_n X dX13_law_5 rfl rfl ?_
    refine r_if_lt (tgt := 39) X dX13_law_6 (by decide) (fun h6 => ?_) (fun h6 => ?_)
    · skip
      exact absurd h6 (nI_pos (by omega))
    · skip
      refine r_iload_n X dX13_law_9 rfl rfl ?_
      refine r_aload_n X dX13_law_10 rfl rfl ?_
      refine r_getI X dX13_law_11 fX13_250 (by assumption) (by first | assumption | rfl) ?_
      refine r_icmpN_ge (tgt := 39) X dX13_law_14 (by decide) (by omega) (by omega) (fun h14 => ?_) (fun h14 => ?_)
      · skip
        omega
      · skip
        refine r_iload_n X dX13_law_17 rfl rfl ?_
        refine r_iconst (v := 0) X dX13_law_18 (by decide) ?_
        refine r_iconst (v := 3) X dX13_law_19 (by decide) ?_
        refine q_callS X dX13_law_20 mX13_125 cwX13_in (c_mIn GE _ _ _ _) rfl rfl (Nat.le_of_ble_eq_true rfl) ⟨Nat.le_of_ble_eq_true rfl, Nat.le_of_ble_eq_true rfl⟩ ⟨(by first | omega | decide | (simp only [rmL, rmA]; omega)), (by first | omega | decide | (simp only [rmL, rmA]; omega))⟩ ?_
        rintro _ _ ⟨rfl, rfl⟩
        refine r_if_eq (tgt := 39) X dX13_law_23 (by decide) (fun h23 => ?_) (fun h23 => ?_)
        · skip
          refine r_iconst (v := -1) X dX13_law_39 (by decide) ?_
          refine r_ireturn X dX13_law_40 rfl (by first | omega | decide | (simp only [rmL, rmA]; omega)) (by first | omega | decide | (simp only [rmL, rmA]; omega)) ?_
          refine ⟨?_, rfl⟩
          simp only [mLaw, hx]
          first | (rw [if_pos (bI_1 h23), nI_clamp (by omega)]; done) | (rw [if_neg (by rw [bI_0 h23]; decide)]; done)
        · skip
          have hy := inB_of (bI_1 h23)
          obtain ⟨y', hy3, rfl⟩ := nI_of2 (M := 3) (n := 3) (by decide) (Int32.not_lt.mpr hy.1) hy.2
          refine r_aload_n X dX13_law_26 rfl rfl ?_
          refine r_getR X dX13_law_27 fX13_88 (by assumption) (by assumption) ?_
          refine r_iconst (v := 4) X dX13_law_30 (by decide) ?_
          refine r_iload_n X dX13_law_31 rfl rfl ?_
          refine r_imul X dX13_law_32 ?_
          refine r_topi (nI (4 * i)) (pk_mul 4 i) ?_
          refine r_iload_n X dX13_law_33 rfl rfl ?_
          refine r_iadd X dX13_law_34 ?_
          refine r_topi (nI (4 * i + y')) (nI_add _ _) ?_
          refine r_ialdN X dX13_law_35 (by assumption) (by omega) (by omega) (by first | assumption | rfl) ?_
          refine r_goto (tgt := 40) X dX13_law_36 (by decide) ?_
          refine r_ireturn X dX13_law_40 rfl (by first | omega | decide | (simp only [rmL, rmA]; omega)) (by first | omega | decide | (simp only [rmL, rmA]; omega)) ?_
          refine ⟨?_, rfl⟩
          simp only [mLaw, hx]
          first | (rw [if_pos (bI_1 h23), nI_clamp (by omega)]; done) | (rw [if_neg (by rw [bI_0 h23]; decide)]; done)
def mTs (I : Mem) (g p : Nat) : Nat → Int32
  | 0 => 0
  | j + 1 => mTs I g p j + I (g + 23) (12 * p + j)
def mNr (I : Mem) (g p : Nat) : Nat := (I (g + 21) p).toNatClampNeg
def mPlanned (I : Mem) (g c : Nat) (x y : Int32) : Int32 := match ixI x c with
  | none => -1
  | some i => if y = 0 then I (g + 21) i else if y = 1 then mTs I g i (mNr I g i) else -1
set_option maxHeartbeats 2000000 in
set_option maxRecDepth 20000 in
/-- SledHouseModel.planned -/
theorem c_mPlanned {E : Ev} (GE : Glob E) (S : Nat → Option (Nat × Nat)) (I : Nat → Nat → Int32) (V : Nat → Nat → Option Nat) (J : Nat → Nat → Int64) (N : Nat) (g c : Nat) (x y : Int32) (hM : MdSh S V g) (hR : MrSh S V g) (h0 : I g 0 = 0) (hc : I g 31 = nI c) (hc8 : c ≤ 8) (hr : ∀ i, i < c → I (g + 21) i = nI (mNr I g i) ∧ mNr I g i ≤ 12) : Ct E yX13_planned cX13_planned 5 (some .int) (rmL 1) [.ref g, .int x, .int y] (S, I, V, J, N) (fun v w' => v = some (.int (mPlanned I g c x y)) ∧ w' = (S, I, V, J, N)) := by
  refine Ct.start GE (by decide) rfl (Nat.le_of_ble_eq_true rfl) (fun M X => ?_)
  have X : Cx E M RX13 cX13_planned 5 (rmL 1) (some .int) "planned" := X
  refine r_loc (L' := [some (.ref g), some (.int x), some (.int y), none, none]) rfl ?_
  obtain ⟨hs0, v8, v9, v10, v11, v16, v17, v18, v19, v20, s1, s2, s3, s4, s5, s6, s7, s8, hOt, hTe, hKt⟩ := id hM
  obtain ⟨v21, v22, v32, v33, v34, v35, v36, v37, v39, s19, s20, s21, s22, s23, s24, s25, s26, s27⟩ := id hR
  rcases hx : ixI x c with _ | i
  · skip
    refine r_aload_n X dX13_planned_0 rfl rfl ?_
    refine r_iconst (v := 0) X dX13_planned_1 (by decide) ?_
    refine r_putI X dX13_planned_2 fX13_1 wX13_1 (by assumption) rfl rfl ?_
    refine r_world (w' := (S, I, V, J, N)) (by rw [up2_id I h0]) ?_
    refine r_iload_n X dX13_planned_5 rfl rfl ?_
    refine r_if_lt (tgt := 17) X dX13_planned_6 (by decide) (fun h6 => ?_) (fun h6 => ?_)
    · skip
      refine r_iconst (v := -1) X dX13_planned_17 (by decide) ?_
      refine r_ireturn X dX13_planned_18 rfl (by first | omega | decide | (simp only [rmL, rmA]; omega)) (by first | omega | decide | (simp only [rmL, rmA]; omega)) ?_
      exact ⟨by simp [mPlanned, hx], rfl⟩
    · skip
      refine r_iload_n X dX13_planned_9 rfl rfl ?_
      refine r_aload_n X dX13_planned_10 rfl rfl ?_
      refine r_getI X dX13_planned_11 fX13_227 (by assumption) (by first | assumption | rfl) ?_
      refine r_icmp_lt (tgt := 19) X dX13_planned_14 (by decide) (fun h14 => ?_) (fun h14 => ?_)
      · skip
        exact ((ixI_none hx).elim (fun z => h6 z) (fun z => absurd h14 (Int32.not_lt.mpr z))).elim
      · skip
        refine r_iconst (v := -1) X dX13_planned_17 (by decide) ?_
        refine r_ireturn X dX13_planned_18 rfl (by first | omega | decide | (simp only [rmL, rmA]; omega)) (by first | omega | decide | (simp only [rmL, rmA]; omega)) ?_
        exact ⟨by simp [mPlanned, hx], rfl⟩
  · skip
    obtain ⟨hi, rfl⟩ := ixI_some (by omega) hx
    obtain ⟨hr1, hr2⟩ := hr i hi
    have H : y = 1 → ∀ j, j ≤ mNr I g i → G E M 0 0 (qQ E M (rmL 1) (fun v w' => v = some (.int (mPlanned I g c (nI i) y)) ∧ w' = (S, I, V, J, N))) 42 [some (.ref g), some (.int (nI i)), some (.int y), some (.int (mTs I g i j)), some (.int (nI j))] [] (S, I, V, J, N) := by
      intro hy
      refine loopN (mNr I g i) (fun j hj ih => ?_)
      refine r_iload X dX13_planned_42 rfl ?_
      refine r_aload_n X dX13_planned_44 rfl rfl ?_
      refine r_getR X dX13_planned_45 fX13_69 (by assumption) (by assumption) ?_
      refine r_iload_n X dX13_planned_48 rfl rfl ?_
      refine r_ialdN X dX13_planned_49 (by assumption) (by omega) (by omega) hr1 ?_
      refine r_icmpN_ge (tgt := 74) X dX13_planned_50 (by decide) (by omega) (by omega) (fun h50 => ?_) (fun h50 => ?_)
      · skip
        refine r_iload_n X dX13_planned_74 rfl rfl ?_
        refine r_ireturn X dX13_planned_75 rfl (by first | omega | decide | (simp only [rmL, rmA]; omega)) (by first | omega | decide | (simp only [rmL, rmA]; omega)) ?_
        obtain rfl : j = mNr I g i := by omega
        exact ⟨by simp [mPlanned, hx, hy], rfl⟩
      · skip
        refine r_iload_n X dX13_planned_53 rfl rfl ?_
        refine r_aload_n X dX13_planned_54 rfl rfl ?_
        refine r_getR X dX13_planned_55 fX13_75 (by assumption) (by assumption) ?_
        refine r_bipush (v := 12) X dX13_planned_58 (by decide) ?_
        refine r_iload_n X dX13_planned_60 rfl rfl ?_
        refine r_imul X dX13_planned_61 ?_
        refine r_topi (nI (12 * i)) (pk_mul 12 i) ?_
        refine r_iload X dX13_planned_62 rfl ?_
        refine r_iadd X dX13_planned_64 ?_
        refine r_topi (nI (12 * i + j)) (nI_add _ _) ?_
        refine r_ialdN X dX13_planned_65 (by assumption) (by omega) (by omega) (by first | assumption | rfl) ?_
        refine r_iadd X dX13_planned_66 ?_
        refine r_istore_n X dX13_planned_67 rfl (by decide) rfl ?_
        first | refine r_iincN X dX13_planned_68 rfl (by decide) rfl ?_ | refine r_iinc X dX13_planned_68 rfl rfl (by decide) rfl ?_
        refine r_goto (tgt := 42) X dX13_planned_71 (by decide) ?_
        exact ih (by omega)
    refine r_aload_n X dX13_planned_0 rfl rfl ?_
    refine r_iconst (v := 0) X dX13_planned_1 (by decide) ?_
    refine r_putI X dX13_planned_2 fX13_1 wX13_1 (by assumption) rfl rfl ?_
    refine r_world (w' := (S, I, V, J, N)) (by rw [up2_id I h0]) ?_
    refine r_iload_n X dX13_planned_5 rfl rfl ?_
    refine r_if_lt (tgt := 17) X dX13_planned_6 (by decide) (fun h6 => ?_) (fun h6 => ?_)
    · skip
      exact absurd h6 (nI_pos (by omega))
    · skip
      refine r_iload_n X dX13_planned_9 rfl rfl ?_
      refine r_aload_n X dX13_planned_10 rfl rfl ?_
      refine r_getI X dX13_planned_11 fX13_227 (by assumption) (by first | assumption | rfl) ?_
      refine r_icmpN_lt (tgt := 19) X dX13_planned_14 (by decide) (by omega) (by omega) (fun h14 => ?_) (fun h14 => ?_)
      · skip
        refine r_iload_n X dX13_planned_19 rfl rfl ?_
        refine r_if_ne (tgt := 30) X dX13_planned_20 (by decide) (fun h20 => ?_) (fun h20 => ?_)
        · skip
          refine r_iload_n X dX13_planned_30 rfl rfl ?_
          refine r_iconst (v := 1) X dX13_planned_31 (by decide) ?_
          refine r_icmp_eq (tgt := 37) X dX13_planned_32 (by decide) (fun h32 => ?_) (fun h32 => ?_)
          · skip
            refine r_iconst (v := 0) X dX13_planned_37 (by decide) ?_
            refine r_istore_n X dX13_planned_38 rfl (by decide) rfl ?_
            refine r_iconst (v := nI 0) X dX13_planned_39 (by decide) ?_
            refine r_istore X dX13_planned_40 (by decide) rfl ?_
            exact H h32 0 (by omega)
          · skip
            refine r_iconst (v := -1) X dX13_planned_35 (by decide) ?_
            refine r_ireturn X dX13_planned_36 rfl (by first | omega | decide | (simp only [rmL, rmA]; omega)) (by first | omega | decide | (simp only [rmL, rmA]; omega)) ?_
            refine ⟨?_, rfl⟩
            simp only [mPlanned, hx]
            simp [*]
        · skip
          refine r_aload_n X dX13_planned_23 rfl rfl ?_
          refine r_getR X dX13_planned_24 fX13_69 (by assumption) (by assumption) ?_
          refine r_iload_n X dX13_planned_27 rfl rfl ?_
          refine r_ialdN X dX13_planned_28 (by assumption) (by omega) (by omega) (by first | assumption | rfl) ?_
          refine r_ireturn X dX13_planned_29 rfl (by first | omega | decide | (simp only [rmL, rmA]; omega)) (by first | omega | decide | (simp only [rmL, rmA]; omega)) ?_
          refine ⟨?_, rfl⟩
          simp only [mPlanned, hx]
          simp [*]
      · skip
        omega
def mLess (I : Mem) (t n p : Nat) (a : Int32) : Int32 := if p = n then 0 else iMax 0 (a - (I (t + 5) p - I (t + 4) p))
set_option maxHeartbeats 2000000 in
set_option maxRecDepth 20000 in
/-- SledHouseModel.less -/
theorem c_mLess {E : Ev} (GE : Glob E) (S : Nat → Option (Nat × Nat)) (I : Nat → Nat → Int32) (V : Nat → Nat → Option Nat) (J : Nat → Nat → Int64) (N : Nat) (g t n p : Nat) (a : Int32) (hM : MdSh S V g) (hT : MtSh S V t) (hn : I g 4 = nI n) (hn12 : n ≤ 12) (hp : p ≤ n) : Ct E yX13_less cX13_less 4 (some .int) (rmL 1) [.ref g, .ref t, .int (nI p), .int a] (S, I, V, J, N) (fun v w' => v = some (.int (mLess I t n p a)) ∧ w' = (S, I, V, J, N)) := by
  refine Ct.start GE (by decide) rfl (Nat.le_of_ble_eq_true rfl) (fun M X => ?_)
  have X : Cx E M RX13 cX13_less 4 (rmL 1) (some .int) "less" := X
  refine r_loc (L' := [some (.ref g), some (.ref t), some (.int (nI p)), some (.int a)]) rfl ?_
  obtain ⟨hs0, v8, v9, v10, v11, v16, v17, v18, v19, v20, s1, s2, s3, s4, s5, s6, s7, s8, hOt, hTe, hKt⟩ := id hM
  obtain ⟨ts0, u15, u16, u17, u18, u19, u20, u21, u22, u23, w1, w2, w3, w4, w5, w6, w7, w8, w9⟩ := id hT
  refine r_iload_n X dX13_less_0 rfl rfl ?_
  refine r_aload_n X dX13_less_1 rfl rfl ?_
  refine r_getI X dX13_less_2 fX13_91 (by assumption) (by first | assumption | rfl) ?_
  refine r_icmpN_ne (tgt := 12) X dX13_less_5 (by decide) (by omega) (by omega) (fun h5 => ?_) (fun h5 => ?_)
  · skip
    refine r_iconst (v := 0) X dX13_less_12 (by decide) ?_
    refine r_iload_n X dX13_less_13 rfl rfl ?_
    refine r_aload_n X dX13_less_14 rfl rfl ?_
    refine r_getR X dX13_less_15 fX13_358 (by assumption) (by assumption) ?_
    refine r_iload_n X dX13_less_18 rfl rfl ?_
    refine r_ialdN X dX13_less_19 (by assumption) (by omega) (by omega) (by first | assumption | rfl) ?_
    refine r_aload_n X dX13_less_20 rfl rfl ?_
    refine r_getR X dX13_less_21 fX13_335 (by assumption) (by assumption) ?_
    refine r_iload_n X dX13_less_24 rfl rfl ?_
    refine r_ialdN X dX13_less_25 (by assumption) (by omega) (by omega) (by first | assumption | rfl) ?_
    refine r_isub X dX13_less_26 ?_
    refine r_isub X dX13_less_27 ?_
    refine r_mmax X dX13_less_28 mmX13_363 (Nat.le_of_ble_eq_true rfl) (Nat.le_of_ble_eq_true rfl) (by first | omega | decide | (simp only [rmL, rmA]; omega)) (by first | omega | decide | (simp only [rmL, rmA]; omega)) ?_
    refine r_ireturn X dX13_less_31 rfl (by first | omega | decide | (simp only [rmL, rmA]; omega)) (by first | omega | decide | (simp only [rmL, rmA]; omega)) ?_
    refine ⟨?_, rfl⟩
    first | (rw [mLess, if_pos (by omega)]; done) | (rw [mLess, if_neg (by omega)]; done)
  · skip
    refine r_iconst (v := 0) X dX13_less_8 (by decide) ?_
    refine r_goto (tgt := 31) X dX13_less_9 (by decide) ?_
    refine r_ireturn X dX13_less_31 rfl (by first | omega | decide | (simp only [rmL, rmA]; omega)) (by first | omega | decide | (simp only [rmL, rmA]; omega)) ?_
    refine ⟨?_, rfl⟩
    first | (rw [mLess, if_pos (by omega)]; done) | (rw [mLess, if_neg (by omega)]; done)
def mF (I : Mem) (g i : Nat) : Nat := (I (g + 27) (4 * i + 2)).toNatClampNeg
def mCt (I : Mem) (g i : Nat) : Nat := (I (g + 27) (4 * i + 3)).toNatClampNeg
def MlOK (I : Mem) (g k : Nat) : Prop := I g 38 = nI k ∧ k ≤ 10 ∧ ∀ i, i < k → I (g + 27) (4 * i + 2) = nI (mF I g i) ∧ mF I g i < 10000 ∧ I (g + 27) (4 * i + 3) = nI (mCt I g i) ∧ mCt I g i < 10000
def mLsTo (I : Mem) (t n : Nat) (a : Int32) (f : Nat) : Nat → Int32
  | 0 => mLess I t n f a
  | j + 1 => iMin (mLsTo I t n a f j) (mLess I t n (f + 1 + j) a)
def mLack (I : Mem) (g t m n i : Nat) : Int32 :=
  if I (g + 27) (4 * i) = 0 then (if n < mF I g i then 0 else mLess I t n (mF I g i) (I (g + 27) (4 * i + 1)))
  else if I (g + 27) (4 * i) = 1 then (if mCt I g i < mF I g i ∨ n < mCt I g i then 0 else mLsTo I t n (I (g + 27) (4 * i + 1)) (mF I g i) (mCt I g i - mF I g i))
  else if I (g + 27) (4 * i) = 2 then iMax 0 (I (g + 27) (4 * i + 1) - mOf I t 0 m) else 0
set_option maxHeartbeats 2000000 in
set_option maxRecDepth 20000 in
/-- SledHouseModel.lacksOf -/
theorem c_mLack {E : Ev} (GE : Glob E) (S : Nat → Option (Nat × Nat)) (I : Nat → Nat → Int32) (V : Nat → Nat → Option Nat) (J : Nat → Nat → Int64) (N : Nat) (g t m n i k : Nat) (hM : MdSh S V g) (hR : MrSh S V g) (hT : MtSh S V t) (hm : I t 0 = nI m) (hm6 : m ≤ 16) (hn : I g 4 = nI n) (hn12 : n ≤ 12) (hO : MlOK I g k) (hi : i < k) : Ct E yX13_lacksOf cX13_lacksOf 8 (some .int) (rmL 2) [.ref g, .ref t, .int (nI i)] (S, I, V, J, N) (fun v w' => v = some (.int (mLack I g t m n i)) ∧ w' = (S, I, V, J, N)) := by
  refine Ct.start GE (by decide) rfl (Nat.le_of_ble_eq_true rfl) (fun M X => ?_)
  have X : Cx E M RX13 cX13_lacksOf 8 (rmL 2) (some .int) "lacksOf" := X
  refine r_loc (L' := [some (.ref g), some (.ref t), some (.int (nI i)), none, none, none, none, none]) rfl ?_
  obtain ⟨hs0, v8, v9, v10, v11, v16, v17, v18, v19, v20, s1, s2, s3, s4, s5, s6, s7, s8, hOt, hTe, hKt⟩ := id hM
  obtain ⟨v21, v22, v32, v33, v34, v35, v36, v37, v39, s19, s20, s21, s22, s23, s24, s25, s26, s27⟩ := id hR
  obtain ⟨ts0, u15, u16, u17, u18, u19, u20, u21, u22, u23, w1, w2, w3, w4, w5, w6, w7, w8, w9⟩ := id hT
  obtain ⟨hO1, hO2, hO3⟩ := hO
  obtain ⟨hf, hf2, hg, hg2⟩ := hO3 i hi
  have H : I (g + 27) (4 * i) = 1 → mF I g i ≤ mCt I g i → mCt I g i ≤ n → ∀ j, j ≤ mCt I g i - mF I g i → G E M 0 0 (qQ E M (rmL 2) (fun v w' => v = some (.int (mLack I g t m n i)) ∧ w' = (S, I, V, J, N))) 124 [some (.ref g), some (.ref t), some (.int (nI i)), some (.int (I (g + 27) (4 * i + 1))), some (.int (nI (mF I g i))), some (.int (nI (mCt I g i))), some (.int (mLsTo I t n (I (g + 27) (4 * i + 1)) (mF I g i) j)), some (.int (nI (mF I g i + 1 + j)))] [] (S, I, V, J, N) := by
    intro hkd hfc hcn
    refine loopN (mCt I g i - mF I g i) (fun j hj ih => ?_)
    refine r_iload X dX13_lacksOf_124 rfl ?_
    refine r_iload X dX13_lacksOf_126 rfl ?_
    refine r_icmpN_gt (tgt := 152) X dX13_lacksOf_128 (by decide) (by omega) (by omega) (fun h128 => ?_) (fun h128 => ?_)
    · skip
      refine r_iload X dX13_lacksOf_152 rfl ?_
      refine r_ireturn X dX13_lacksOf_154 rfl (by first | omega | decide | (simp only [rmL, rmA]; omega)) (by first | omega | decide | (simp only [rmL, rmA]; omega)) ?_
      refine ⟨?_, rfl⟩
      rw [mLack, if_neg (by rw [hkd]; decide), if_pos hkd, if_neg (by omega), show mCt I g i - mF I g i = j by omega]
    · skip
      refine r_iload X dX13_lacksOf_131 rfl ?_
      refine r_aload_n X dX13_lacksOf_133 rfl rfl ?_
      refine r_aload_n X dX13_lacksOf_134 rfl rfl ?_
      refine r_iload X dX13_lacksOf_135 rfl ?_
      refine r_iload_n X dX13_lacksOf_137 rfl rfl ?_
      refine q_callV X dX13_lacksOf_138 mX13_395 cwX13_less (c_mLess GE S I V J N g t n _ _ hM hT hn hn12 (by omega)) rfl (by assumption) rfl rfl rfl (Nat.le_of_ble_eq_true rfl) ⟨Nat.le_of_ble_eq_true rfl, Nat.le_of_ble_eq_true rfl⟩ ⟨(by first | omega | decide | (simp only [rmL, rmA]; omega)), (by first | omega | decide | (simp only [rmL, rmA]; omega))⟩ ?_
      rintro _ _ ⟨rfl, rfl⟩
      refine r_mmin X dX13_lacksOf_141 mmX13_398 (Nat.le_of_ble_eq_true rfl) (Nat.le_of_ble_eq_true rfl) (by first | omega | decide | (simp only [rmL, rmA]; omega)) (by first | omega | decide | (simp only [rmL, rmA]; omega)) ?_
      refine r_istore X dX13_lacksOf_144 (by decide) rfl ?_
      first | refine r_iincN X dX13_lacksOf_146 rfl (by decide) rfl ?_ | refine r_iinc X dX13_lacksOf_146 rfl rfl (by decide) rfl ?_
      refine r_goto (tgt := 124) X dX13_lacksOf_149 (by decide) ?_
      exact ih (by omega)
  refine r_aload_n X dX13_lacksOf_0 rfl rfl ?_
  refine r_getR X dX13_lacksOf_1 fX13_88 (by assumption) (by assumption) ?_
  refine r_iconst (v := 4) X dX13_lacksOf_4 (by decide) ?_
  refine r_iload_n X dX13_lacksOf_5 rfl rfl ?_
  refine r_imul X dX13_lacksOf_6 ?_
  refine r_topi (nI (4 * i)) (pk_mul 4 i) ?_
  refine r_iconst (v := 1) X dX13_lacksOf_7 (by decide) ?_
  refine r_iadd X dX13_lacksOf_8 ?_
  refine r_topi (nI (4 * i + 1)) (nI_add _ 1) ?_
  refine r_ialdN X dX13_lacksOf_9 (by assumption) (by omega) (by omega) (by first | assumption | rfl) ?_
  refine r_istore_n X dX13_lacksOf_10 rfl (by decide) rfl ?_
  refine r_aload_n X dX13_lacksOf_11 rfl rfl ?_
  refine r_getR X dX13_lacksOf_12 fX13_88 (by assumption) (by assumption) ?_
  refine r_iconst (v := 4) X dX13_lacksOf_15 (by decide) ?_
  refine r_iload_n X dX13_lacksOf_16 rfl rfl ?_
  refine r_imul X dX13_lacksOf_17 ?_
  refine r_topi (nI (4 * i)) (pk_mul 4 i) ?_
  refine r_iconst (v := 2) X dX13_lacksOf_18 (by decide) ?_
  refine r_iadd X dX13_lacksOf_19 ?_
  refine r_topi (nI (4 * i + 2)) (nI_add _ 2) ?_
  refine r_ialdN X dX13_lacksOf_20 (by assumption) (by omega) (by omega) hf ?_
  refine r_istore X dX13_lacksOf_21 (by decide) rfl ?_
  refine r_aload_n X dX13_lacksOf_23 rfl rfl ?_
  refine r_getR X dX13_lacksOf_24 fX13_88 (by assumption) (by assumption) ?_
  refine r_iconst (v := 4) X dX13_lacksOf_27 (by decide) ?_
  refine r_iload_n X dX13_lacksOf_28 rfl rfl ?_
  refine r_imul X dX13_lacksOf_29 ?_
  refine r_topi (nI (4 * i)) (pk_mul 4 i) ?_
  refine r_iconst (v := 3) X dX13_lacksOf_30 (by decide) ?_
  refine r_iadd X dX13_lacksOf_31 ?_
  refine r_topi (nI (4 * i + 3)) (nI_add _ 3) ?_
  refine r_ialdN X dX13_lacksOf_32 (by assumption) (by omega) (by omega) hg ?_
  refine r_istore X dX13_lacksOf_33 (by decide) rfl ?_
  refine r_aload_n X dX13_lacksOf_35 rfl rfl ?_
  refine r_getR X dX13_lacksOf_36 fX13_88 (by assumption) (by assumption) ?_
  refine r_iconst (v := 4) X dX13_lacksOf_39 (by decide) ?_
  refine r_iload_n X dX13_lacksOf_40 rfl rfl ?_
  refine r_imul X dX13_lacksOf_41 ?_
  refine r_topi (nI (4 * i)) (pk_mul 4 i) ?_
  refine r_ialdN X dX13_lacksOf_42 (by assumption) (by omega) (by omega) (by first | assumption | rfl) ?_
  refine r_sw (0) (fun h43_0 => ?_) (fun h43_0 => ?_)
  · skip
    refine r_tableIn (off := 25) (tgt := 68) X dX13_lacksOf_43 (by rw [h43_0]; decide) (by rw [h43_0]; decide) (by rw [h43_0]; rfl) (by decide) ?_
    refine r_iload X dX13_lacksOf_68 rfl ?_
    refine r_aload_n X dX13_lacksOf_70 rfl rfl ?_
    refine r_getI X dX13_lacksOf_71 fX13_91 (by assumption) (by first | assumption | rfl) ?_
    refine r_icmpN_le (tgt := 81) X dX13_lacksOf_74 (by decide) (by omega) (by omega) (fun h74 => ?_) (fun h74 => ?_)
    · skip
      refine r_aload_n X dX13_lacksOf_81 rfl rfl ?_
      refine r_aload_n X dX13_lacksOf_82 rfl rfl ?_
      refine r_iload X dX13_lacksOf_83 rfl ?_
      refine r_iload_n X dX13_lacksOf_85 rfl rfl ?_
      refine q_callV X dX13_lacksOf_86 mX13_395 cwX13_less (c_mLess GE S I V J N g t n _ _ hM hT hn hn12 (by omega)) rfl (by assumption) rfl rfl rfl (Nat.le_of_ble_eq_true rfl) ⟨Nat.le_of_ble_eq_true rfl, Nat.le_of_ble_eq_true rfl⟩ ⟨(by first | omega | decide | (simp only [rmL, rmA]; omega)), (by first | omega | decide | (simp only [rmL, rmA]; omega))⟩ ?_
      rintro _ _ ⟨rfl, rfl⟩
      refine r_ireturn X dX13_lacksOf_89 rfl (by first | omega | decide | (simp only [rmL, rmA]; omega)) (by first | omega | decide | (simp only [rmL, rmA]; omega)) ?_
      refine ⟨?_, rfl⟩
      rw [mLack, if_pos h43_0]
      first | (rw [if_pos (by omega)]; done) | (rw [if_neg (by omega)]; done)
    · skip
      refine r_iconst (v := 0) X dX13_lacksOf_77 (by decide) ?_
      refine r_goto (tgt := 89) X dX13_lacksOf_78 (by decide) ?_
      refine r_ireturn X dX13_lacksOf_89 rfl (by first | omega | decide | (simp only [rmL, rmA]; omega)) (by first | omega | decide | (simp only [rmL, rmA]; omega)) ?_
      refine ⟨?_, rfl⟩
      rw [mLack, if_pos h43_0]
      first | (rw [if_pos (by omega)]; done) | (rw [if_neg (by omega)]; done)
  · skip
    refine r_sw (1) (fun h43_1 => ?_) (fun h43_1 => ?_)
    · skip
      refine r_tableIn (off := 47) (tgt := 90) X dX13_lacksOf_43 (by rw [h43_1]; decide) (by rw [h43_1]; decide) (by rw [h43_1]; rfl) (by decide) ?_
      refine r_iload X dX13_lacksOf_90 rfl ?_
      refine r_iload X dX13_lacksOf_92 rfl ?_
      refine r_icmpN_gt (tgt := 106) X dX13_lacksOf_94 (by decide) (by omega) (by omega) (fun h94 => ?_) (fun h94 => ?_)
      · skip
        refine r_iconst (v := 0) X dX13_lacksOf_106 (by decide) ?_
        refine r_ireturn X dX13_lacksOf_107 rfl (by first | omega | decide | (simp only [rmL, rmA]; omega)) (by first | omega | decide | (simp only [rmL, rmA]; omega)) ?_
        refine ⟨?_, rfl⟩
        rw [mLack, if_neg h43_0, if_pos h43_1, if_pos (by omega)]
      · skip
        refine r_iload X dX13_lacksOf_97 rfl ?_
        refine r_aload_n X dX13_lacksOf_99 rfl rfl ?_
        refine r_getI X dX13_lacksOf_100 fX13_91 (by assumption) (by first | assumption | rfl) ?_
        refine r_icmpN_le (tgt := 108) X dX13_lacksOf_103 (by decide) (by omega) (by omega) (fun h103 => ?_) (fun h103 => ?_)
        · skip
          refine r_aload_n X dX13_lacksOf_108 rfl rfl ?_
          refine r_aload_n X dX13_lacksOf_109 rfl rfl ?_
          refine r_iload X dX13_lacksOf_110 rfl ?_
          refine r_iload_n X dX13_lacksOf_112 rfl rfl ?_
          refine q_callV X dX13_lacksOf_113 mX13_395 cwX13_less (c_mLess GE S I V J N g t n _ _ hM hT hn hn12 (by omega)) rfl (by assumption) rfl rfl rfl (Nat.le_of_ble_eq_true rfl) ⟨Nat.le_of_ble_eq_true rfl, Nat.le_of_ble_eq_true rfl⟩ ⟨(by first | omega | decide | (simp only [rmL, rmA]; omega)), (by first | omega | decide | (simp only [rmL, rmA]; omega))⟩ ?_
          rintro _ _ ⟨rfl, rfl⟩
          refine r_istore X dX13_lacksOf_116 (by decide) rfl ?_
          refine r_iload X dX13_lacksOf_118 rfl ?_
          refine r_iconst (v := 1) X dX13_lacksOf_120 (by decide) ?_
          refine r_iadd X dX13_lacksOf_121 ?_
          refine r_topi (nI (mF I g i + 1)) (nI_1 _) ?_
          refine r_istore X dX13_lacksOf_122 (by decide) rfl ?_
          exact H h43_1 (by omega) (by omega) 0 (by omega)
        · skip
          refine r_iconst (v := 0) X dX13_lacksOf_106 (by decide) ?_
          refine r_ireturn X dX13_lacksOf_107 rfl (by first | omega | decide | (simp only [rmL, rmA]; omega)) (by first | omega | decide | (simp only [rmL, rmA]; omega)) ?_
          refine ⟨?_, rfl⟩
          rw [mLack, if_neg h43_0, if_pos h43_1, if_pos (by omega)]
    · skip
      refine r_sw (2) (fun h43_2 => ?_) (fun h43_2 => ?_)
      · skip
        refine r_tableIn (off := 112) (tgt := 155) X dX13_lacksOf_43 (by rw [h43_2]; decide) (by rw [h43_2]; decide) (by rw [h43_2]; rfl) (by decide) ?_
        refine r_iconst (v := 0) X dX13_lacksOf_155 (by decide) ?_
        refine r_iload_n X dX13_lacksOf_156 rfl rfl ?_
        refine r_aload_n X dX13_lacksOf_157 rfl rfl ?_
        refine r_iconst (v := 0) X dX13_lacksOf_158 (by decide) ?_
        refine q_callV X dX13_lacksOf_159 mX13_324 cwX12_of (c_mOf GE S I V J N t m _ hT hm hm6) rfl (by assumption) rfl rfl rfl (Nat.le_of_ble_eq_true rfl) ⟨Nat.le_of_ble_eq_true rfl, Nat.le_of_ble_eq_true rfl⟩ ⟨(by first | omega | decide | (simp only [rmL, rmA]; omega)), (by first | omega | decide | (simp only [rmL, rmA]; omega))⟩ ?_
        rintro _ _ ⟨rfl, rfl⟩
        refine r_isub X dX13_lacksOf_162 ?_
        refine r_mmax X dX13_lacksOf_163 mmX13_363 (Nat.le_of_ble_eq_true rfl) (Nat.le_of_ble_eq_true rfl) (by first | omega | decide | (simp only [rmL, rmA]; omega)) (by first | omega | decide | (simp only [rmL, rmA]; omega)) ?_
        refine r_ireturn X dX13_lacksOf_166 rfl (by first | omega | decide | (simp only [rmL, rmA]; omega)) (by first | omega | decide | (simp only [rmL, rmA]; omega)) ?_
        refine ⟨?_, rfl⟩
        rw [mLack, if_neg h43_0, if_neg h43_1, if_pos h43_2]
      · skip
        refine r_tableOut (tgt := 167) X dX13_lacksOf_43 (by have e0 := lv_neT (a := 0) h43_0 (by decide); have e1 := lv_neT (a := 1) h43_1 (by decide); have e2 := lv_neT (a := 2) h43_2 (by decide); omega) (by decide) ?_
        refine r_iconst (v := 0) X dX13_lacksOf_167 (by decide) ?_
        refine r_ireturn X dX13_lacksOf_168 rfl (by first | omega | decide | (simp only [rmL, rmA]; omega)) (by first | omega | decide | (simp only [rmL, rmA]; omega)) ?_
        refine ⟨?_, rfl⟩
        rw [mLack, if_neg h43_0, if_neg h43_1, if_neg h43_2]
def mRr (I : Mem) (g t m n : Nat) : Nat → Int32
  | 0 => 0
  | j + 1 => if I (g + 27) (4 * j) = 3 then mRr I g t m n j else if I (g + 27) (4 * j) = 2 then mRr I g t m n j else mRr I g t m n j + mLack I g t m n j
def mRd (I : Mem) (g t m n : Nat) : Nat → Int32
  | 0 => 0
  | j + 1 => if I (g + 27) (4 * j) = 3 then mRd I g t m n j else if I (g + 27) (4 * j) = 2 then mRd I g t m n j + mLack I g t m n j else mRd I g t m n j
def mR1 (I : Mem) (g : Nat) : Nat → Int32
  | 0 => 2
  | j + 1 => if I (g + 27) (4 * j) = 3 then I (g + 27) (4 * j + 1) else mR1 I g j
def mR2 (I : Mem) (g : Nat) : Nat → Int32
  | 0 => 60
  | j + 1 => if I (g + 27) (4 * j) = 3 then I (g + 27) (4 * j + 2) else mR2 I g j
def mRes (I : Mem) (g t m n k : Nat) : Int32 := I (t + 4) n - I t 3 + mR1 I g k * mRr I g t m n k + mR2 I g k * mRd I g t m n k
set_option maxHeartbeats 2000000 in
set_option maxRecDepth 20000 in
/-- SledHouseModel.resultOf -/
theorem c_mRes {E : Ev} (GE : Glob E) (S : Nat → Option (Nat × Nat)) (I : Nat → Nat → Int32) (V : Nat → Nat → Option Nat) (J : Nat → Nat → Int64) (N : Nat) (g t m n k : Nat) (hM : MdSh S V g) (hR : MrSh S V g) (hT : MtSh S V t) (hm : I t 0 = nI m) (hm6 : m ≤ 16) (hn : I g 4 = nI n) (hn12 : n ≤ 12) (hO : MlOK I g k) : Ct E yX13_resultOf cX13_resultOf 7 (some .int) (rmL 3) [.ref g, .ref t] (S, I, V, J, N) (fun v w' => v = some (.int (mRes I g t m n k)) ∧ w' = (S, I, V, J, N)) := by
  refine Ct.start GE (by decide) rfl (Nat.le_of_ble_eq_true rfl) (fun M X => ?_)
  have X : Cx E M RX13 cX13_resultOf 7 (rmL 3) (some .int) "resultOf" := X
  refine r_loc (L' := [some (.ref g), some (.ref t), none, none, none, none, none]) rfl ?_
  obtain ⟨hs0, v8, v9, v10, v11, v16, v17, v18, v19, v20, s1, s2, s3, s4, s5, s6, s7, s8, hOt, hTe, hKt⟩ := id hM
  obtain ⟨v21, v22, v32, v33, v34, v35, v36, v37, v39, s19, s20, s21, s22, s23, s24, s25, s26, s27⟩ := id hR
  obtain ⟨ts0, u15, u16, u17, u18, u19, u20, u21, u22, u23, w1, w2, w3, w4, w5, w6, w7, w8, w9⟩ := id hT
  have hk4 := hO.1
  have hk := hO.2.1
  have H : ∀ j, j ≤ k → G E M 0 0 (qQ E M (rmL 3) (fun v w' => v = some (.int (mRes I g t m n k)) ∧ w' = (S, I, V, J, N))) 14 [some (.ref g), some (.ref t), some (.int (mR1 I g j)), some (.int (mR2 I g j)), some (.int (mRr I g t m n j)), some (.int (mRd I g t m n j)), some (.int (nI j))] [] (S, I, V, J, N) := by
    refine loopN k (fun j hj ih => ?_)
    refine r_iload X dX13_resultOf_14 rfl ?_
    refine r_aload_n X dX13_resultOf_16 rfl rfl ?_
    refine r_getI X dX13_resultOf_17 fX13_250 (by assumption) (by first | assumption | rfl) ?_
    refine r_icmpN_ge (tgt := 109) X dX13_resultOf_20 (by decide) (by omega) (by omega) (fun h20 => ?_) (fun h20 => ?_)
    · skip
      refine r_aload_n X dX13_resultOf_109 rfl rfl ?_
      refine r_getR X dX13_resultOf_110 fX13_335 (by assumption) (by assumption) ?_
      refine r_aload_n X dX13_resultOf_113 rfl rfl ?_
      refine r_getI X dX13_resultOf_114 fX13_91 (by assumption) (by first | assumption | rfl) ?_
      refine r_ialdN X dX13_resultOf_117 (by assumption) (by omega) (by omega) (by first | assumption | rfl) ?_
      refine r_aload_n X dX13_resultOf_118 rfl rfl ?_
      refine r_getI X dX13_resultOf_119 fX13_333 (by assumption) (by first | assumption | rfl) ?_
      refine r_isub X dX13_resultOf_122 ?_
      refine r_iload_n X dX13_resultOf_123 rfl rfl ?_
      refine r_iload X dX13_resultOf_124 rfl ?_
      refine r_imul X dX13_resultOf_126 ?_
      refine r_iadd X dX13_resultOf_127 ?_
      refine r_iload_n X dX13_resultOf_128 rfl rfl ?_
      refine r_iload X dX13_resultOf_129 rfl ?_
      refine r_imul X dX13_resultOf_131 ?_
      refine r_iadd X dX13_resultOf_132 ?_
      refine r_ireturn X dX13_resultOf_133 rfl (by first | omega | decide | (simp only [rmL, rmA]; omega)) (by first | omega | decide | (simp only [rmL, rmA]; omega)) ?_
      obtain rfl : j = k := by omega
      exact ⟨rfl, rfl⟩
    · skip
      refine r_aload_n X dX13_resultOf_23 rfl rfl ?_
      refine r_getR X dX13_resultOf_24 fX13_88 (by assumption) (by assumption) ?_
      refine r_iconst (v := 4) X dX13_resultOf_27 (by decide) ?_
      refine r_iload X dX13_resultOf_28 rfl ?_
      refine r_imul X dX13_resultOf_30 ?_
      refine r_topi (nI (4 * j)) (pk_mul 4 j) ?_
      refine r_ialdN X dX13_resultOf_31 (by assumption) (by omega) (by omega) (by first | assumption | rfl) ?_
      refine r_iconst (v := 3) X dX13_resultOf_32 (by decide) ?_
      refine r_icmp_ne (tgt := 63) X dX13_resultOf_33 (by decide) (fun h33 => ?_) (fun h33 => ?_)
      · skip
        refine r_aload_n X dX13_resultOf_63 rfl rfl ?_
        refine r_getR X dX13_resultOf_64 fX13_88 (by assumption) (by assumption) ?_
        refine r_iconst (v := 4) X dX13_resultOf_67 (by decide) ?_
        refine r_iload X dX13_resultOf_68 rfl ?_
        refine r_imul X dX13_resultOf_70 ?_
        refine r_topi (nI (4 * j)) (pk_mul 4 j) ?_
        refine r_ialdN X dX13_resultOf_71 (by assumption) (by omega) (by omega) (by first | assumption | rfl) ?_
        refine r_iconst (v := 2) X dX13_resultOf_72 (by decide) ?_
        refine r_icmp_ne (tgt := 91) X dX13_resultOf_73 (by decide) (fun h73 => ?_) (fun h73 => ?_)
        · skip
          refine r_iload X dX13_resultOf_91 rfl ?_
          refine r_aload_n X dX13_resultOf_93 rfl rfl ?_
          refine r_aload_n X dX13_resultOf_94 rfl rfl ?_
          refine r_iload X dX13_resultOf_95 rfl ?_
          refine q_callV X dX13_resultOf_97 mX13_401 cwX13_lacksOf (c_mLack GE S I V J N g t m n j k hM hR hT hm hm6 hn hn12 hO (by omega)) rfl (by assumption) rfl rfl rfl (Nat.le_of_ble_eq_true rfl) ⟨Nat.le_of_ble_eq_true rfl, Nat.le_of_ble_eq_true rfl⟩ ⟨(by first | omega | decide | (simp only [rmL, rmA]; omega)), (by first | omega | decide | (simp only [rmL, rmA]; omega))⟩ ?_
          rintro _ _ ⟨rfl, rfl⟩
          refine r_iadd X dX13_resultOf_100 ?_
          refine r_istore X dX13_resultOf_101 (by decide) rfl ?_
          first | refine r_iincN X dX13_resultOf_103 rfl (by decide) rfl ?_ | refine r_iinc X dX13_resultOf_103 rfl rfl (by decide) rfl ?_
          refine r_goto (tgt := 14) X dX13_resultOf_106 (by decide) ?_
          exact r_loc (by simp [mRr, mRd, mR1, mR2, *] <;> rfl) (ih (by omega))
        · skip
          refine r_iload X dX13_resultOf_76 rfl ?_
          refine r_aload_n X dX13_resultOf_78 rfl rfl ?_
          refine r_aload_n X dX13_resultOf_79 rfl rfl ?_
          refine r_iload X dX13_resultOf_80 rfl ?_
          refine q_callV X dX13_resultOf_82 mX13_401 cwX13_lacksOf (c_mLack GE S I V J N g t m n j k hM hR hT hm hm6 hn hn12 hO (by omega)) rfl (by assumption) rfl rfl rfl (Nat.le_of_ble_eq_true rfl) ⟨Nat.le_of_ble_eq_true rfl, Nat.le_of_ble_eq_true rfl⟩ ⟨(by first | omega | decide | (simp only [rmL, rmA]; omega)), (by first | omega | decide | (simp only [rmL, rmA]; omega))⟩ ?_
          rintro _ _ ⟨rfl, rfl⟩
          refine r_iadd X dX13_resultOf_85 ?_
          refine r_istore X dX13_resultOf_86 (by decide) rfl ?_
          refine r_goto (tgt := 103) X dX13_resultOf_88 (by decide) ?_
          first | refine r_iincN X dX13_resultOf_103 rfl (by decide) rfl ?_ | refine r_iinc X dX13_resultOf_103 rfl rfl (by decide) rfl ?_
          refine r_goto (tgt := 14) X dX13_resultOf_106 (by decide) ?_
          exact r_loc (by simp [mRr, mRd, mR1, mR2, *] <;> rfl) (ih (by omega))
      · skip
        refine r_aload_n X dX13_resultOf_36 rfl rfl ?_
        refine r_getR X dX13_resultOf_37 fX13_88 (by assumption) (by assumption) ?_
        refine r_iconst (v := 4) X dX13_resultOf_40 (by decide) ?_
        refine r_iload X dX13_resultOf_41 rfl ?_
        refine r_imul X dX13_resultOf_43 ?_
        refine r_topi (nI (4 * j)) (pk_mul 4 j) ?_
        refine r_iconst (v := 1) X dX13_resultOf_44 (by decide) ?_
        refine r_iadd X dX13_resultOf_45 ?_
        refine r_topi (nI (4 * j + 1)) (nI_add _ 1) ?_
        refine r_ialdN X dX13_resultOf_46 (by assumption) (by omega) (by omega) (by first | assumption | rfl) ?_
        refine r_istore_n X dX13_resultOf_47 rfl (by decide) rfl ?_
        refine r_aload_n X dX13_resultOf_48 rfl rfl ?_
        refine r_getR X dX13_resultOf_49 fX13_88 (by assumption) (by assumption) ?_
        refine r_iconst (v := 4) X dX13_resultOf_52 (by decide) ?_
        refine r_iload X dX13_resultOf_53 rfl ?_
        refine r_imul X dX13_resultOf_55 ?_
        refine r_topi (nI (4 * j)) (pk_mul 4 j) ?_
        refine r_iconst (v := 2) X dX13_resultOf_56 (by decide) ?_
        refine r_iadd X dX13_resultOf_57 ?_
        refine r_topi (nI (4 * j + 2)) (nI_add _ 2) ?_
        refine r_ialdN X dX13_resultOf_58 (by assumption) (by omega) (by omega) (by first | assumption | rfl) ?_
        refine r_istore_n X dX13_resultOf_59 rfl (by decide) rfl ?_
        refine r_goto (tgt := 103) X dX13_resultOf_60 (by decide) ?_
        first | refine r_iincN X dX13_resultOf_103 rfl (by decide) rfl ?_ | refine r_iinc X dX13_resultOf_103 rfl rfl (by decide) rfl ?_
        refine r_goto (tgt := 14) X dX13_resultOf_106 (by decide) ?_
        exact r_loc (by simp [mRr, mRd, mR1, mR2, *] <;> rfl) (ih (by omega))
  refine r_iconst (v := 2) X dX13_resultOf_0 (by decide) ?_
  refine r_istore_n X dX13_resultOf_1 rfl (by decide) rfl ?_
  refine r_bipush (v := 60) X dX13_resultOf_2 (by decide) ?_
  refine r_istore_n X dX13_resultOf_4 rfl (by decide) rfl ?_
  refine r_iconst (v := 0) X dX13_resultOf_5 (by decide) ?_
  refine r_istore X dX13_resultOf_6 (by decide) rfl ?_
  refine r_iconst (v := 0) X dX13_resultOf_8 (by decide) ?_
  refine r_istore X dX13_resultOf_9 (by decide) rfl ?_
  refine r_iconst (v := nI 0) X dX13_resultOf_11 (by decide) ?_
  refine r_istore X dX13_resultOf_12 (by decide) rfl ?_
  exact H 0 (by omega)
def mHome (I : Mem) (g c : Nat) (x : Int32) : Option Nat := match ixI x c with
  | none => none
  | some i => if I (mt g i) 5 = 2 then some i else none
def mResult (I : Mem) (g c n k : Nat) (x : Int32) : Int32 := match mHome I g c x with
  | none => -1
  | some i => mRes I g (mt g i) (mD I (mt g i)) n k
set_option maxHeartbeats 2000000 in
set_option maxRecDepth 20000 in
/-- SledHouseModel.result -/
theorem c_mResult {E : Ev} (GE : Glob E) (S : Nat → Option (Nat × Nat)) (I : Nat → Nat → Int32) (V : Nat → Nat → Option Nat) (J : Nat → Nat → Int64) (N : Nat) (g c n k : Nat) (x : Int32) (hM : MdSh S V g) (hR : MrSh S V g) (h0 : I g 0 = 0) (hc : I g 5 = nI c) (hc6 : c ≤ 6) (hn : I g 4 = nI n) (hn12 : n ≤ 12) (hO : MlOK I g k) (hl : ∀ i, i < c → MtOK I (mt g i)) : Ct E yX13_result cX13_result 2 (some .int) (rmL 4) [.ref g, .int x] (S, I, V, J, N) (fun v w' => v = some (.int (mResult I g c n k x)) ∧ w' = (S, I, V, J, N)) := by
  refine Ct.start GE (by decide) rfl (Nat.le_of_ble_eq_true rfl) (fun M X => ?_)
  have X : Cx E M RX13 cX13_result 2 (rmL 4) (some .int) "result" := X
  refine r_loc (L' := [some (.ref g), some (.int x)]) rfl ?_
  obtain ⟨hs0, v8, v9, v10, v11, v16, v17, v18, v19, v20, s1, s2, s3, s4, s5, s6, s7, s8, hOt, hTe, hKt⟩ := id hM
  obtain ⟨v21, v22, v32, v33, v34, v35, v36, v37, v39, s19, s20, s21, s22, s23, s24, s25, s26, s27⟩ := id hR
  rcases hx : ixI x c with _ | i
  · skip
    refine r_aload_n X dX13_result_0 rfl rfl ?_
    refine r_iconst (v := 0) X dX13_result_1 (by decide) ?_
    refine r_putI X dX13_result_2 fX13_1 wX13_1 (by assumption) rfl rfl ?_
    refine r_world (w' := (S, I, V, J, N)) (by rw [up2_id I h0]) ?_
    refine r_aload_n X dX13_result_5 rfl rfl ?_
    refine r_iload_n X dX13_result_6 rfl rfl ?_
    refine q_callV X dX13_result_7 mX13_286 cwX13_isTeam (c_mIsTeam GE S I V J N g c x hs0 hc) rfl (by assumption) rfl rfl rfl (Nat.le_of_ble_eq_true rfl) ⟨Nat.le_of_ble_eq_true rfl, Nat.le_of_ble_eq_true rfl⟩ ⟨(by first | omega | decide | (simp only [rmL, rmA]; omega)), (by first | omega | decide | (simp only [rmL, rmA]; omega))⟩ ?_
    rintro _ _ ⟨rfl, rfl⟩
    refine r_if_eq (tgt := 39) X dX13_result_10 (by decide) (fun h10 => ?_) (fun h10 => ?_)
    · skip
      refine r_iconst (v := -1) X dX13_result_39 (by decide) ?_
      refine r_ireturn X dX13_result_40 rfl (by first | omega | decide | (simp only [rmL, rmA]; omega)) (by first | omega | decide | (simp only [rmL, rmA]; omega)) ?_
      exact ⟨by simp [mResult, mHome, hx], rfl⟩
    · skip
      exact (ix_f hx h10).elim
  · skip
    obtain ⟨hi, rfl⟩ := ixI_some (by omega) hx
    have te1 := (hTe i (by omega)).1
    have hT := (hTe i (by omega)).2
    obtain ⟨ts0, u15, u16, u17, u18, u19, u20, u21, u22, u23, w1, w2, w3, w4, w5, w6, w7, w8, w9⟩ := id hT
    obtain ⟨hl1, hl2, hl3, hl4⟩ := hl i hi
    refine r_aload_n X dX13_result_0 rfl rfl ?_
    refine r_iconst (v := 0) X dX13_result_1 (by decide) ?_
    refine r_putI X dX13_result_2 fX13_1 wX13_1 (by assumption) rfl rfl ?_
    refine r_world (w' := (S, I, V, J, N)) (by rw [up2_id I h0]) ?_
    refine r_aload_n X dX13_result_5 rfl rfl ?_
    refine r_iload_n X dX13_result_6 rfl rfl ?_
    refine q_callV X dX13_result_7 mX13_286 cwX13_isTeam (c_mIsTeam GE S I V J N g c _ hs0 hc) rfl (by assumption) rfl rfl rfl (Nat.le_of_ble_eq_true rfl) ⟨Nat.le_of_ble_eq_true rfl, Nat.le_of_ble_eq_true rfl⟩ ⟨(by first | omega | decide | (simp only [rmL, rmA]; omega)), (by first | omega | decide | (simp only [rmL, rmA]; omega))⟩ ?_
    rintro _ _ ⟨rfl, rfl⟩
    refine r_if_eq (tgt := 39) X dX13_result_10 (by decide) (fun h10 => ?_) (fun h10 => ?_)
    · skip
      exact (ix_t hx h10).elim
    · skip
      refine r_aload_n X dX13_result_13 rfl rfl ?_
      refine r_getR X dX13_result_14 fX13_34 (by assumption) (by assumption) ?_
      refine r_iload_n X dX13_result_17 rfl rfl ?_
      refine r_aaldN X dX13_result_18 (by assumption) (by decide) rfl (by omega) (by omega) (by assumption) ?_
      refine r_getI X dX13_result_19 fX13_289 (by assumption) (by first | assumption | rfl) ?_
      refine r_iconst (v := 2) X dX13_result_22 (by decide) ?_
      refine r_icmp_ne (tgt := 39) X dX13_result_23 (by decide) (fun h23 => ?_) (fun h23 => ?_)
      · skip
        refine r_iconst (v := -1) X dX13_result_39 (by decide) ?_
        refine r_ireturn X dX13_result_40 rfl (by first | omega | decide | (simp only [rmL, rmA]; omega)) (by first | omega | decide | (simp only [rmL, rmA]; omega)) ?_
        exact ⟨by simp [mResult, mHome, hx, h23], rfl⟩
      · skip
        refine r_aload_n X dX13_result_26 rfl rfl ?_
        refine r_aload_n X dX13_result_27 rfl rfl ?_
        refine r_getR X dX13_result_28 fX13_34 (by assumption) (by assumption) ?_
        refine r_iload_n X dX13_result_31 rfl rfl ?_
        refine r_aaldN X dX13_result_32 (by assumption) (by decide) rfl (by omega) (by omega) (by assumption) ?_
        refine q_callV X dX13_result_33 mX13_405 cwX13_resultOf (c_mRes GE S I V J N g _ _ n k hM hR hT hl3 hl4 hn hn12 hO) rfl (by assumption) rfl rfl rfl (Nat.le_of_ble_eq_true rfl) ⟨Nat.le_of_ble_eq_true rfl, Nat.le_of_ble_eq_true rfl⟩ ⟨(by first | omega | decide | (simp only [rmL, rmA]; omega)), (by first | omega | decide | (simp only [rmL, rmA]; omega))⟩ ?_
        rintro _ _ ⟨rfl, rfl⟩
        refine r_goto (tgt := 40) X dX13_result_36 (by decide) ?_
        refine r_ireturn X dX13_result_40 rfl (by first | omega | decide | (simp only [rmL, rmA]; omega)) (by first | omega | decide | (simp only [rmL, rmA]; omega)) ?_
        exact ⟨by simp [mResult, mHome, hx, h23], rfl⟩
def mLacks (I : Mem) (g c n k : Nat) (x y : Int32) : Int32 := match mHome I g c x with
  | none => -1
  | some i => match ixI y k with
    | none => -1
    | some j => mLack I g (mt g i) (mD I (mt g i)) n j
set_option maxHeartbeats 2000000 in
set_option maxRecDepth 20000 in
/-- SledHouseModel.lacks -/
theorem c_mLacks {E : Ev} (GE : Glob E) (S : Nat → Option (Nat × Nat)) (I : Nat → Nat → Int32) (V : Nat → Nat → Option Nat) (J : Nat → Nat → Int64) (N : Nat) (g c n k : Nat) (x y : Int32) (hM : MdSh S V g) (hR : MrSh S V g) (h0 : I g 0 = 0) (hc : I g 5 = nI c) (hc6 : c ≤ 6) (hn : I g 4 = nI n) (hn12 : n ≤ 12) (hO : MlOK I g k) (hl : ∀ i, i < c → MtOK I (mt g i)) : Ct E yX13_lacks cX13_lacks 3 (some .int) (rmL 3) [.ref g, .int x, .int y] (S, I, V, J, N) (fun v w' => v = some (.int (mLacks I g c n k x y)) ∧ w' = (S, I, V, J, N)) := by
  refine Ct.start GE (by decide) rfl (Nat.le_of_ble_eq_true rfl) (fun M X => ?_)
  have X : Cx E M RX13 cX13_lacks 3 (rmL 3) (some .int) "lacks" := X
  refine r_loc (L' := [some (.ref g), some (.int x), some (.int y)]) rfl ?_
  obtain ⟨hs0, v8, v9, v10, v11, v16, v17, v18, v19, v20, s1, s2, s3, s4, s5, s6, s7, s8, hOt, hTe, hKt⟩ := id hM
  obtain ⟨v21, v22, v32, v33, v34, v35, v36, v37, v39, s19, s20, s21, s22, s23, s24, s25, s26, s27⟩ := id hR
  have hk4 := hO.1
  have hk := hO.2.1
  rcases hx : ixI x c with _ | i
  · skip
    refine r_aload_n X dX13_lacks_0 rfl rfl ?_
    refine r_iconst (v := 0) X dX13_lacks_1 (by decide) ?_
    refine r_putI X dX13_lacks_2 fX13_1 wX13_1 (by assumption) rfl rfl ?_
    refine r_world (w' := (S, I, V, J, N)) (by rw [up2_id I h0]) ?_
    refine r_aload_n X dX13_lacks_5 rfl rfl ?_
    refine r_iload_n X dX13_lacks_6 rfl rfl ?_
    refine q_callV X dX13_lacks_7 mX13_286 cwX13_isTeam (c_mIsTeam GE S I V J N g c x hs0 hc) rfl (by assumption) rfl rfl rfl (Nat.le_of_ble_eq_true rfl) ⟨Nat.le_of_ble_eq_true rfl, Nat.le_of_ble_eq_true rfl⟩ ⟨(by first | omega | decide | (simp only [rmL, rmA]; omega)), (by first | omega | decide | (simp only [rmL, rmA]; omega))⟩ ?_
    rintro _ _ ⟨rfl, rfl⟩
    refine r_if_eq (tgt := 52) X dX13_lacks_10 (by decide) (fun h10 => ?_) (fun h10 => ?_)
    · skip
      refine r_iconst (v := -1) X dX13_lacks_52 (by decide) ?_
      refine r_ireturn X dX13_lacks_53 rfl (by first | omega | decide | (simp only [rmL, rmA]; omega)) (by first | omega | decide | (simp only [rmL, rmA]; omega)) ?_
      exact ⟨by simp [mLacks, mHome, hx], rfl⟩
    · skip
      exact (ix_f hx h10).elim
  · skip
    obtain ⟨hi, rfl⟩ := ixI_some (by omega) hx
    have te1 := (hTe i (by omega)).1
    have hT := (hTe i (by omega)).2
    obtain ⟨ts0, u15, u16, u17, u18, u19, u20, u21, u22, u23, w1, w2, w3, w4, w5, w6, w7, w8, w9⟩ := id hT
    obtain ⟨hl1, hl2, hl3, hl4⟩ := hl i hi
    rcases hy : ixI y k with _ | j
    · skip
      refine r_aload_n X dX13_lacks_0 rfl rfl ?_
      refine r_iconst (v := 0) X dX13_lacks_1 (by decide) ?_
      refine r_putI X dX13_lacks_2 fX13_1 wX13_1 (by assumption) rfl rfl ?_
      refine r_world (w' := (S, I, V, J, N)) (by rw [up2_id I h0]) ?_
      refine r_aload_n X dX13_lacks_5 rfl rfl ?_
      refine r_iload_n X dX13_lacks_6 rfl rfl ?_
      refine q_callV X dX13_lacks_7 mX13_286 cwX13_isTeam (c_mIsTeam GE S I V J N g c _ hs0 hc) rfl (by assumption) rfl rfl rfl (Nat.le_of_ble_eq_true rfl) ⟨Nat.le_of_ble_eq_true rfl, Nat.le_of_ble_eq_true rfl⟩ ⟨(by first | omega | decide | (simp only [rmL, rmA]; omega)), (by first | omega | decide | (simp only [rmL, rmA]; omega))⟩ ?_
      rintro _ _ ⟨rfl, rfl⟩
      refine r_if_eq (tgt := 52) X dX13_lacks_10 (by decide) (fun h10 => ?_) (fun h10 => ?_)
      · skip
        exact (ix_t hx h10).elim
      · skip
        refine r_aload_n X dX13_lacks_13 rfl rfl ?_
        refine r_getR X dX13_lacks_14 fX13_34 (by assumption) (by assumption) ?_
        refine r_iload_n X dX13_lacks_17 rfl rfl ?_
        refine r_aaldN X dX13_lacks_18 (by assumption) (by decide) rfl (by omega) (by omega) (by assumption) ?_
        refine r_getI X dX13_lacks_19 fX13_289 (by assumption) (by first | assumption | rfl) ?_
        refine r_iconst (v := 2) X dX13_lacks_22 (by decide) ?_
        refine r_icmp_ne (tgt := 52) X dX13_lacks_23 (by decide) (fun h23 => ?_) (fun h23 => ?_)
        · skip
          refine r_iconst (v := -1) X dX13_lacks_52 (by decide) ?_
          refine r_ireturn X dX13_lacks_53 rfl (by first | omega | decide | (simp only [rmL, rmA]; omega)) (by first | omega | decide | (simp only [rmL, rmA]; omega)) ?_
          exact ⟨by simp [mLacks, mHome, hx, hy, h23], rfl⟩
        · skip
          refine r_iload_n X dX13_lacks_26 rfl rfl ?_
          refine r_if_lt (tgt := 52) X dX13_lacks_27 (by decide) (fun h27 => ?_) (fun h27 => ?_)
          · skip
            refine r_iconst (v := -1) X dX13_lacks_52 (by decide) ?_
            refine r_ireturn X dX13_lacks_53 rfl (by first | omega | decide | (simp only [rmL, rmA]; omega)) (by first | omega | decide | (simp only [rmL, rmA]; omega)) ?_
            exact ⟨by simp [mLacks, mHome, hx, hy, h23], rfl⟩
          · skip
            refine r_iload_n X dX13_lacks_30 rfl rfl ?_
            refine r_aload_n X dX13_lacks_31 rfl rfl ?_
            refine r_getI X dX13_lacks_32 fX13_250 (by assumption) (by first | assumption | rfl) ?_
            refine r_icmp_ge (tgt := 52) X dX13_lacks_35 (by decide) (fun h35 => ?_) (fun h35 => ?_)
            · skip
              refine r_iconst (v := -1) X dX13_lacks_52 (by decide) ?_
              refine r_ireturn X dX13_lacks_53 rfl (by first | omega | decide | (simp only [rmL, rmA]; omega)) (by first | omega | decide | (simp only [rmL, rmA]; omega)) ?_
              exact ⟨by simp [mLacks, mHome, hx, hy, h23], rfl⟩
            · skip
              exact ((ixI_none hy).elim (fun z => h27 z) (fun z => h35 z)).elim
    · obtain ⟨hj, rfl⟩ := ixI_some (by omega) hy
      refine r_aload_n X dX13_lacks_0 rfl rfl ?_
      refine r_iconst (v := 0) X dX13_lacks_1 (by decide) ?_
      refine r_putI X dX13_lacks_2 fX13_1 wX13_1 (by assumption) rfl rfl ?_
      refine r_world (w' := (S, I, V, J, N)) (by rw [up2_id I h0]) ?_
      refine r_aload_n X dX13_lacks_5 rfl rfl ?_
      refine r_iload_n X dX13_lacks_6 rfl rfl ?_
      refine q_callV X dX13_lacks_7 mX13_286 cwX13_isTeam (c_mIsTeam GE S I V J N g c _ hs0 hc) rfl (by assumption) rfl rfl rfl (Nat.le_of_ble_eq_true rfl) ⟨Nat.le_of_ble_eq_true rfl, Nat.le_of_ble_eq_true rfl⟩ ⟨(by first | omega | decide | (simp only [rmL, rmA]; omega)), (by first | omega | decide | (simp only [rmL, rmA]; omega))⟩ ?_
      rintro _ _ ⟨rfl, rfl⟩
      refine r_if_eq (tgt := 52) X dX13_lacks_10 (by decide) (fun h10 => ?_) (fun h10 => ?_)
      · skip
        exact (ix_t hx h10).elim
      · skip
        refine r_aload_n X dX13_lacks_13 rfl rfl ?_
        refine r_getR X dX13_lacks_14 fX13_34 (by assumption) (by assumption) ?_
        refine r_iload_n X dX13_lacks_17 rfl rfl ?_
        refine r_aaldN X dX13_lacks_18 (by assumption) (by decide) rfl (by omega) (by omega) (by assumption) ?_
        refine r_getI X dX13_lacks_19 fX13_289 (by assumption) (by first | assumption | rfl) ?_
        refine r_iconst (v := 2) X dX13_lacks_22 (by decide) ?_
        refine r_icmp_ne (tgt := 52) X dX13_lacks_23 (by decide) (fun h23 => ?_) (fun h23 => ?_)
        · skip
          refine r_iconst (v := -1) X dX13_lacks_52 (by decide) ?_
          refine r_ireturn X dX13_lacks_53 rfl (by first | omega | decide | (simp only [rmL, rmA]; omega)) (by first | omega | decide | (simp only [rmL, rmA]; omega)) ?_
          exact ⟨by simp [mLacks, mHome, hx, hy, h23], rfl⟩
        · skip
          refine r_iload_n X dX13_lacks_26 rfl rfl ?_
          refine r_if_lt (tgt := 52) X dX13_lacks_27 (by decide) (fun h27 => ?_) (fun h27 => ?_)
          · skip
            exact absurd h27 (nI_pos (by omega))
          · skip
            refine r_iload_n X dX13_lacks_30 rfl rfl ?_
            refine r_aload_n X dX13_lacks_31 rfl rfl ?_
            refine r_getI X dX13_lacks_32 fX13_250 (by assumption) (by first | assumption | rfl) ?_
            refine r_icmpN_ge (tgt := 52) X dX13_lacks_35 (by decide) (by omega) (by omega) (fun h35 => ?_) (fun h35 => ?_)
            · skip
              omega
            · skip
              refine r_aload_n X dX13_lacks_38 rfl rfl ?_
              refine r_aload_n X dX13_lacks_39 rfl rfl ?_
              refine r_getR X dX13_lacks_40 fX13_34 (by assumption) (by assumption) ?_
              refine r_iload_n X dX13_lacks_43 rfl rfl ?_
              refine r_aaldN X dX13_lacks_44 (by assumption) (by decide) rfl (by omega) (by omega) (by assumption) ?_
              refine r_iload_n X dX13_lacks_45 rfl rfl ?_
              refine q_callV X dX13_lacks_46 mX13_401 cwX13_lacksOf (c_mLack GE S I V J N g _ _ n j k hM hR hT hl3 hl4 hn hn12 hO hj) rfl (by assumption) rfl rfl rfl (Nat.le_of_ble_eq_true rfl) ⟨Nat.le_of_ble_eq_true rfl, Nat.le_of_ble_eq_true rfl⟩ ⟨(by first | omega | decide | (simp only [rmL, rmA]; omega)), (by first | omega | decide | (simp only [rmL, rmA]; omega))⟩ ?_
              rintro _ _ ⟨rfl, rfl⟩
              refine r_goto (tgt := 53) X dX13_lacks_49 (by decide) ?_
              refine r_ireturn X dX13_lacks_53 rfl (by first | omega | decide | (simp only [rmL, rmA]; omega)) (by first | omega | decide | (simp only [rmL, rmA]; omega)) ?_
              exact ⟨by simp [mLacks, mHome, hx, hy, h23], rfl⟩
