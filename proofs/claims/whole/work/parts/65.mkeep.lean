/-! ===== the reference: cold, feed, keep, back ===== -/
def mColdTo (I : Mem) (g u lo j : Nat) (d : Int32) : Mem := fun b k => if b = g + 3 ∧ lo ≤ k ∧ k < j ∧ u ≤ 6 * k then d else I b k
theorem mColdTo_0 (I : Mem) (g u lo : Nat) (d : Int32) : mColdTo I g u lo lo d = I := by
  funext b k
  unfold mColdTo
  rw [if_neg (by omega)]
theorem mColdTo_y (I : Mem) (g u lo j : Nat) (d : Int32) (h : lo ≤ j) (hu : u ≤ 6 * j) : up2 (mColdTo I g u lo j d) (g + 3) j d = mColdTo I g u lo (j + 1) d := by
  funext b k
  unfold up2 mColdTo
  by_cases hb : b = g + 3 ∧ k = j
  · rw [if_pos hb, if_pos (by omega)]
  · rw [if_neg hb]
    by_cases h2 : b = g + 3 ∧ lo ≤ k ∧ k < j ∧ u ≤ 6 * k
    · rw [if_pos h2, if_pos (by omega)]
    · rw [if_neg h2, if_neg (by omega)]
theorem mColdTo_n (I : Mem) (g u lo j : Nat) (d : Int32) (hu : ¬ u ≤ 6 * j) : mColdTo I g u lo j d = mColdTo I g u lo (j + 1) d := by
  funext b k
  unfold mColdTo
  by_cases h2 : b = g + 3 ∧ lo ≤ k ∧ k < j ∧ u ≤ 6 * k
  · rw [if_pos h2, if_pos (by omega)]
  · rw [if_neg h2, if_neg (by omega)]
def mCold (I : Mem) (g u : Nat) (x y d : Int32) : Int32 × Mem :=
  if 0 ≤ x ∧ y < 334 ∧ x ≤ y ∧ inB d (-50) 20 = true then (1, mTrb (mColdTo I g u x.toNatClampNeg (y.toNatClampNeg + 1) d) g 0)
  else (0, mTrb I g 2)
set_option maxHeartbeats 2000000 in
set_option maxRecDepth 20000 in
/-- SledHouseModel.cold -/
theorem c_mCold {E : Ev} (GE : Glob E) (S : Nat → Option (Nat × Nat)) (I : Nat → Nat → Int32) (V : Nat → Nat → Option Nat) (J : Nat → Nat → Int64) (N : Nat) (g u : Nat) (x y d : Int32) (hM : MdSh S V g) (h0 : I g 0 = 0) (hu : I g 6 = nI u) (hu2 : u ≤ 2000) : Ct E yX13_cold cX13_cold 5 (some .boolean) (rmL 1) [.ref g, .int x, .int y, .int d] (S, I, V, J, N) (fun v w' => v = some (.int (mCold I g u x y d).1) ∧ w' = (S, (mCold I g u x y d).2, V, J, N)) := by
  refine Ct.start GE (by decide) rfl (Nat.le_of_ble_eq_true rfl) (fun M X => ?_)
  have X : Cx E M RX13 cX13_cold 5 (rmL 1) (some .boolean) "cold" := X
  refine r_loc (L' := [some (.ref g), some (.int x), some (.int y), some (.int d), none]) rfl ?_
  obtain ⟨hs0, v8, v9, v10, v11, v16, v17, v18, v19, v20, s1, s2, s3, s4, s5, s6, s7, s8, hOt, hTe, hKt⟩ := id hM
  refine r_aload_n X dX13_cold_0 rfl rfl ?_
  refine r_iconst (v := 0) X dX13_cold_1 (by decide) ?_
  refine r_putI X dX13_cold_2 fX13_1 wX13_1 (by assumption) rfl rfl ?_
  refine r_world (w' := (S, I, V, J, N)) (by rw [up2_id I h0]) ?_
  refine r_iload_n X dX13_cold_5 rfl rfl ?_
  refine r_if_lt (tgt := 32) X dX13_cold_6 (by decide) (fun h6 => ?_) (fun h6 => ?_)
  · skip
    refine r_aload_n X dX13_cold_32 rfl rfl ?_
    refine r_iconst (v := 2) X dX13_cold_33 (by decide) ?_
    refine q_callV X dX13_cold_34 mX13_113 cwX13_denied (c_mDenied GE S I V J N g _ hs0) rfl (by assumption) rfl rfl rfl (Nat.le_of_ble_eq_true rfl) ⟨Nat.le_of_ble_eq_true rfl, Nat.le_of_ble_eq_true rfl⟩ ⟨(by first | omega | decide | (simp only [rmL, rmA]; omega)), (by first | omega | decide | (simp only [rmL, rmA]; omega))⟩ ?_
    rintro _ _ ⟨rfl, rfl⟩
    refine r_ireturn X dX13_cold_37 rfl (by first | omega | decide | (simp only [rmL, rmA]; omega)) (by first | omega | decide | (simp only [rmL, rmA]; omega)) ?_
    have hno : ¬ (0 ≤ x ∧ y < 334 ∧ x ≤ y ∧ inB d (-50) 20 = true) := by
      rintro ⟨q1, q2, q3, q4⟩
      first | exact absurd h6 (Int32.not_lt.mpr q1) | exact absurd h18 (Int32.not_le.mpr q2) | exact absurd h11 (Int32.not_lt.mpr q3) | exact absurd ((bI_0 h29).symm.trans q4) (by decide)
    exact ⟨by rw [mCold, if_neg hno], by rw [mCold, if_neg hno]⟩
  · skip
    refine r_iload_n X dX13_cold_9 rfl rfl ?_
    refine r_iload_n X dX13_cold_10 rfl rfl ?_
    refine r_icmp_gt (tgt := 32) X dX13_cold_11 (by decide) (fun h11 => ?_) (fun h11 => ?_)
    · skip
      refine r_aload_n X dX13_cold_32 rfl rfl ?_
      refine r_iconst (v := 2) X dX13_cold_33 (by decide) ?_
      refine q_callV X dX13_cold_34 mX13_113 cwX13_denied (c_mDenied GE S I V J N g _ hs0) rfl (by assumption) rfl rfl rfl (Nat.le_of_ble_eq_true rfl) ⟨Nat.le_of_ble_eq_true rfl, Nat.le_of_ble_eq_true rfl⟩ ⟨(by first | omega | decide | (simp only [rmL, rmA]; omega)), (by first | omega | decide | (simp only [rmL, rmA]; omega))⟩ ?_
      rintro _ _ ⟨rfl, rfl⟩
      refine r_ireturn X dX13_cold_37 rfl (by first | omega | decide | (simp only [rmL, rmA]; omega)) (by first | omega | decide | (simp only [rmL, rmA]; omega)) ?_
      have hno : ¬ (0 ≤ x ∧ y < 334 ∧ x ≤ y ∧ inB d (-50) 20 = true) := by
        rintro ⟨q1, q2, q3, q4⟩
        first | exact absurd h6 (Int32.not_lt.mpr q1) | exact absurd h18 (Int32.not_le.mpr q2) | exact absurd h11 (Int32.not_lt.mpr q3) | exact absurd ((bI_0 h29).symm.trans q4) (by decide)
      exact ⟨by rw [mCold, if_neg hno], by rw [mCold, if_neg hno]⟩
    · skip
      refine r_iload_n X dX13_cold_14 rfl rfl ?_
      refine r_sipush (v := 334) X dX13_cold_15 (by decide) ?_
      refine r_icmp_ge (tgt := 32) X dX13_cold_18 (by decide) (fun h18 => ?_) (fun h18 => ?_)
      · skip
        refine r_aload_n X dX13_cold_32 rfl rfl ?_
        refine r_iconst (v := 2) X dX13_cold_33 (by decide) ?_
        refine q_callV X dX13_cold_34 mX13_113 cwX13_denied (c_mDenied GE S I V J N g _ hs0) rfl (by assumption) rfl rfl rfl (Nat.le_of_ble_eq_true rfl) ⟨Nat.le_of_ble_eq_true rfl, Nat.le_of_ble_eq_true rfl⟩ ⟨(by first | omega | decide | (simp only [rmL, rmA]; omega)), (by first | omega | decide | (simp only [rmL, rmA]; omega))⟩ ?_
        rintro _ _ ⟨rfl, rfl⟩
        refine r_ireturn X dX13_cold_37 rfl (by first | omega | decide | (simp only [rmL, rmA]; omega)) (by first | omega | decide | (simp only [rmL, rmA]; omega)) ?_
        have hno : ¬ (0 ≤ x ∧ y < 334 ∧ x ≤ y ∧ inB d (-50) 20 = true) := by
          rintro ⟨q1, q2, q3, q4⟩
          first | exact absurd h6 (Int32.not_lt.mpr q1) | exact absurd h18 (Int32.not_le.mpr q2) | exact absurd h11 (Int32.not_lt.mpr q3) | exact absurd ((bI_0 h29).symm.trans q4) (by decide)
        exact ⟨by rw [mCold, if_neg hno], by rw [mCold, if_neg hno]⟩
      · skip
        refine r_iload_n X dX13_cold_21 rfl rfl ?_
        refine r_bipush (v := -50) X dX13_cold_22 (by decide) ?_
        refine r_bipush (v := 20) X dX13_cold_24 (by decide) ?_
        refine q_callS X dX13_cold_26 mX13_125 cwX13_in (c_mIn GE _ _ _ _) rfl rfl (Nat.le_of_ble_eq_true rfl) ⟨Nat.le_of_ble_eq_true rfl, Nat.le_of_ble_eq_true rfl⟩ ⟨(by first | omega | decide | (simp only [rmL, rmA]; omega)), (by first | omega | decide | (simp only [rmL, rmA]; omega))⟩ ?_
        rintro _ _ ⟨rfl, rfl⟩
        refine r_if_ne (tgt := 38) X dX13_cold_29 (by decide) (fun h29 => ?_) (fun h29 => ?_)
        · skip
          have hyes : 0 ≤ x ∧ y < 334 ∧ x ≤ y ∧ inB d (-50) 20 = true := ⟨Int32.not_lt.mp h6, Int32.not_le.mp h18, Int32.not_lt.mp h11, bI_1 h29⟩
          have e1 : mCold I g u x y d = (1, mTrb (mColdTo I g u x.toNatClampNeg (y.toNatClampNeg + 1) d) g 0) := by rw [mCold, if_pos hyes]
          rw [e1]
          have hy0 : ¬ y < 0 := Int32.not_lt.mpr (Int32.le_trans hyes.1 hyes.2.2.1)
          obtain ⟨a, ha, rfl⟩ := nI_of h6
          obtain ⟨b, hb, rfl⟩ := nI_of hy0
          rw [nI_clamp ha, nI_clamp hb]
          have hb3 : b < 334 := (nI_ltI hb (by decide)).mp hyes.2.1
          have hab : a ≤ b := (nI_leI ha hb).mp hyes.2.2.1
          have H : ∀ j, j ≤ b + 1 → a ≤ j → G E M 0 0 (qQ E M (rmL 1) (fun v w' => v = some (.int 1) ∧ w' = (S, mTrb (mColdTo I g u a (b + 1) d) g 0, V, J, N))) 41 [some (.ref g), some (.int (nI a)), some (.int (nI b)), some (.int d), some (.int (nI j))] [] (S, mColdTo I g u a j d, V, J, N) := by
            refine loopN (b + 1) (fun j hj ih => ?_)
            intro haj
            have hu' : mColdTo I g u a j d g 6 = nI u := by rw [mColdTo, if_neg (by omega)]; exact hu
            refine r_iload X dX13_cold_41 rfl ?_
            refine r_iload_n X dX13_cold_43 rfl rfl ?_
            refine r_icmpN_gt (tgt := 73) X dX13_cold_44 (by decide) (by omega) (by omega) (fun h44 => ?_) (fun h44 => ?_)
            · skip
              refine r_aload_n X dX13_cold_73 rfl rfl ?_
              refine q_callV X dX13_cold_74 mX13_117 cwX13_granted (c_mGranted GE S _ V J N g hs0) rfl (by assumption) rfl rfl rfl (Nat.le_of_ble_eq_true rfl) ⟨Nat.le_of_ble_eq_true rfl, Nat.le_of_ble_eq_true rfl⟩ ⟨(by first | omega | decide | (simp only [rmL, rmA]; omega)), (by first | omega | decide | (simp only [rmL, rmA]; omega))⟩ ?_
              rintro _ _ ⟨rfl, rfl⟩
              refine r_ireturn X dX13_cold_77 rfl (by first | omega | decide | (simp only [rmL, rmA]; omega)) (by first | omega | decide | (simp only [rmL, rmA]; omega)) ?_
              obtain rfl : j = b + 1 := by omega
              exact ⟨rfl, rfl⟩
            · skip
              refine r_bipush (v := 6) X dX13_cold_47 (by decide) ?_
              refine r_iload X dX13_cold_49 rfl ?_
              refine r_imul X dX13_cold_51 ?_
              refine r_topi (nI (6 * j)) (pk_mul 6 j) ?_
              refine r_aload_n X dX13_cold_52 rfl rfl ?_
              refine r_getI X dX13_cold_53 fX13_100 (by assumption) hu' ?_
              refine r_icmpN_lt (tgt := 67) X dX13_cold_56 (by decide) (by omega) (by omega) (fun h56 => ?_) (fun h56 => ?_)
              · skip
                first | refine r_iincN X dX13_cold_67 rfl (by decide) rfl ?_ | refine r_iinc X dX13_cold_67 rfl rfl (by decide) rfl ?_
                refine r_goto (tgt := 41) X dX13_cold_70 (by decide) ?_
                first
                  | exact r_world (by rw [mColdTo_y _ _ _ _ _ _ haj (by omega)]) (ih (by omega) (by omega))
                  | exact r_world (by rw [mColdTo_n _ _ _ _ _ _ (by omega)]) (ih (by omega) (by omega))
              · skip
                refine r_aload_n X dX13_cold_59 rfl rfl ?_
                refine r_getR X dX13_cold_60 fX13_29 (by assumption) (by assumption) ?_
                refine r_iload X dX13_cold_63 rfl ?_
                refine r_iload_n X dX13_cold_65 rfl rfl ?_
                refine r_iastN X dX13_cold_66 (by assumption) (by omega) (by omega) ?_
                first | refine r_iincN X dX13_cold_67 rfl (by decide) rfl ?_ | refine r_iinc X dX13_cold_67 rfl rfl (by decide) rfl ?_
                refine r_goto (tgt := 41) X dX13_cold_70 (by decide) ?_
                first
                  | exact r_world (by rw [mColdTo_y _ _ _ _ _ _ haj (by omega)]) (ih (by omega) (by omega))
                  | exact r_world (by rw [mColdTo_n _ _ _ _ _ _ (by omega)]) (ih (by omega) (by omega))
          refine r_iload_n X dX13_cold_38 rfl rfl ?_
          refine r_istore X dX13_cold_39 (by decide) rfl ?_
          exact r_world (by rw [mColdTo_0]) (H a (by omega) (Nat.le_refl _))
        · skip
          refine r_aload_n X dX13_cold_32 rfl rfl ?_
          refine r_iconst (v := 2) X dX13_cold_33 (by decide) ?_
          refine q_callV X dX13_cold_34 mX13_113 cwX13_denied (c_mDenied GE S I V J N g _ hs0) rfl (by assumption) rfl rfl rfl (Nat.le_of_ble_eq_true rfl) ⟨Nat.le_of_ble_eq_true rfl, Nat.le_of_ble_eq_true rfl⟩ ⟨(by first | omega | decide | (simp only [rmL, rmA]; omega)), (by first | omega | decide | (simp only [rmL, rmA]; omega))⟩ ?_
          rintro _ _ ⟨rfl, rfl⟩
          refine r_ireturn X dX13_cold_37 rfl (by first | omega | decide | (simp only [rmL, rmA]; omega)) (by first | omega | decide | (simp only [rmL, rmA]; omega)) ?_
          have hno : ¬ (0 ≤ x ∧ y < 334 ∧ x ≤ y ∧ inB d (-50) 20 = true) := by
            rintro ⟨q1, q2, q3, q4⟩
            first | exact absurd h6 (Int32.not_lt.mpr q1) | exact absurd h18 (Int32.not_le.mpr q2) | exact absurd h11 (Int32.not_lt.mpr q3) | exact absurd ((bI_0 h29).symm.trans q4) (by decide)
          exact ⟨by rw [mCold, if_neg hno], by rw [mCold, if_neg hno]⟩
def mPut1 (I : Mem) (g z : Nat) (x sh : Int32) : Mem := up2 (up2 I (g + 20) z (x >>> (sh &&& 31)).toInt8.toInt32) g 23 (nI (z + 1))
def sel5 (a b c d e : Int32) (j : Nat) : Int32 := if j < 4 then a else if j < 8 then b else if j < 12 then c else if j < 16 then d else e
def mFd (I : Mem) (g z : Nat) (a b c d e : Int32) : Nat → Mem
  | 0 => I
  | j + 1 => mPut1 (mFd I g z a b c d e j) g (z + j) (sel5 a b c d e j) (nI (24 - 8 * (j % 4)))
theorem mFd_23 {I : Mem} {g z : Nat} {a b c d e : Int32} (h : I g 23 = nI z) : ∀ j, mFd I g z a b c d e j g 23 = nI (z + j)
  | 0 => h
  | j + 1 => up2_same _ _ _ _
def mFeed (I : Mem) (g z : Nat) (a b c d e : Int32) : Int32 × Mem := if z + 20 ≤ 400 then (nI (z + 20), mFd I g z a b c d e 20) else (-1, I)
set_option maxHeartbeats 2000000 in
set_option maxRecDepth 20000 in
/-- SledHouseModel.feed -/
theorem c_mFeed {E : Ev} (GE : Glob E) (S : Nat → Option (Nat × Nat)) (I : Nat → Nat → Int32) (V : Nat → Nat → Option Nat) (J : Nat → Nat → Int64) (N : Nat) (g z : Nat) (a b c d e : Int32) (hM : MdSh S V g) (hR : MrSh S V g) (h0 : I g 0 = 0) (hz : I g 23 = nI z) (hz4 : z ≤ 400) : Ct E yX13_feed cX13_feed 8 (some .int) (rmL 0) [.ref g, .int a, .int b, .int c, .int d, .int e] (S, I, V, J, N) (fun v w' => v = some (.int (mFeed I g z a b c d e).1) ∧ w' = (S, (mFeed I g z a b c d e).2, V, J, N)) := by
  refine Ct.start GE (by decide) rfl (Nat.le_of_ble_eq_true rfl) (fun M X => ?_)
  have X : Cx E M RX13 cX13_feed 8 (rmL 0) (some .int) "feed" := X
  refine r_loc (L' := [some (.ref g), some (.int a), some (.int b), some (.int c), some (.int d), some (.int e), none, none]) rfl ?_
  obtain ⟨hs0, v8, v9, v10, v11, v16, v17, v18, v19, v20, s1, s2, s3, s4, s5, s6, s7, s8, hOt, hTe, hKt⟩ := id hM
  obtain ⟨v21, v22, v32, v33, v34, v35, v36, v37, v39, s19, s20, s21, s22, s23, s24, s25, s26, s27⟩ := id hR
  have H : z + 20 ≤ 400 → ∀ j, j ≤ 20 → ∀ x7, G E M 0 0 (qQ E M (rmL 0) (fun v w' => v = some (.int (mFeed I g z a b c d e).1) ∧ w' = (S, (mFeed I g z a b c d e).2, V, J, N))) 23 [some (.ref g), some (.int a), some (.int b), some (.int c), some (.int d), some (.int e), some (.int (nI j)), x7] [] (S, mFd I g z a b c d e j, V, J, N) := by
    intro hz20
    have e1 : mFeed I g z a b c d e = (nI (z + 20), mFd I g z a b c d e 20) := by rw [mFeed, if_pos hz20]
    rw [e1]
    refine loopN 20 (fun j hj ih => ?_)
    intro x7
    have h23 := mFd_23 (a := a) (b := b) (c := c) (d := d) (e := e) hz j
    have eJ : mFd I g z a b c d e (j + 1) = mPut1 (mFd I g z a b c d e j) g (z + j) (sel5 a b c d e j) (nI (24 - 8 * (j % 4))) := rfl
    rw [eJ] at ih
    have eL : j = 20 → mFd I g z a b c d e j = mFd I g z a b c d e 20 := fun q => by rw [q]
    generalize hIj : mFd I g z a b c d e j = Ij at ih h23 eL ⊢
    have e76 : j < 20 → ∀ y x7, y = sel5 a b c d e j → G E M 0 0 (qQ E M (rmL 0) (fun v w' => v = some (.int (nI (z + 20))) ∧ w' = (S, mFd I g z a b c d e 20, V, J, N))) 76 [some (.ref g), some (.int a), some (.int b), some (.int c), some (.int d), some (.int e), some (.int (nI j)), x7] [.int y] (S, Ij, V, J, N) := by
      intro hj2 y x7 hy
      rw [hy]
      refine r_istore X dX13_feed_76 (by decide) rfl ?_
      refine r_aload_n X dX13_feed_78 rfl rfl ?_
      refine r_getR X dX13_feed_79 fX13_65 (by assumption) (by assumption) ?_
      refine r_aload_n X dX13_feed_82 rfl rfl ?_
      refine r_getI X dX13_feed_83 fX13_221 (by assumption) h23 ?_
      refine r_iload X dX13_feed_86 rfl ?_
      refine r_bipush (v := 24) X dX13_feed_88 (by decide) ?_
      refine r_bipush (v := 8) X dX13_feed_90 (by decide) ?_
      refine r_iload X dX13_feed_92 rfl ?_
      refine r_iconst (v := 4) X dX13_feed_94 (by decide) ?_
      refine r_irem X dX13_feed_95 (by decide) ?_
      refine r_topi (nI (j % 4)) (pk_rem (d := 4) (by omega) (by decide) (by decide)) ?_
      refine r_imul X dX13_feed_96 ?_
      refine r_topi (nI (8 * (j % 4))) (pk_mul 8 _) ?_
      refine r_isub X dX13_feed_97 ?_
      refine r_topi (nI (24 - 8 * (j % 4))) (pk_sub (a := 24) (by omega)) ?_
      refine r_ishr X dX13_feed_98 ?_
      refine r_i2b X dX13_feed_99 ?_
      refine r_bastN X dX13_feed_100 (by assumption) (by omega) (by omega) (pk_nb _) ?_
      refine r_aload_n X dX13_feed_101 rfl rfl ?_
      refine r_dup X dX13_feed_102 rfl ?_
      refine r_getI X dX13_feed_103 fX13_221 (by assumption) ((up2_a (by omega)).trans h23) ?_
      refine r_iconst (v := 1) X dX13_feed_106 (by decide) ?_
      refine r_iadd X dX13_feed_107 ?_
      refine r_topi (nI (z + j + 1)) (nI_1 _) ?_
      refine r_putI X dX13_feed_108 fX13_221 wX13_221 (by assumption) rfl rfl ?_
      first | refine r_iincN X dX13_feed_111 rfl (by decide) rfl ?_ | refine r_iinc X dX13_feed_111 rfl rfl (by decide) rfl ?_
      refine r_goto (tgt := 23) X dX13_feed_114 (by decide) ?_
      exact ih hj2 _
    refine r_iload X dX13_feed_23 rfl ?_
    refine r_bipush (v := nI 20) X dX13_feed_25 (by decide) ?_
    refine r_icmpN_ge (tgt := 117) X dX13_feed_27 (by decide) (by omega) (by omega) (fun h27 => ?_) (fun h27 => ?_)
    · skip
      refine r_aload_n X dX13_feed_117 rfl rfl ?_
      refine r_getI X dX13_feed_118 fX13_221 (by assumption) h23 ?_
      refine r_ireturn X dX13_feed_121 rfl (by first | omega | decide | (simp only [rmL, rmA]; omega)) (by first | omega | decide | (simp only [rmL, rmA]; omega)) ?_
      exact ⟨by rw [show j = 20 by omega], by rw [eL (by omega)]⟩
    · skip
      refine r_iload X dX13_feed_30 rfl ?_
      refine r_iconst (v := nI 4) X dX13_feed_32 (by decide) ?_
      refine r_icmpN_ge (tgt := 40) X dX13_feed_33 (by decide) (by omega) (by omega) (fun h33 => ?_) (fun h33 => ?_)
      · skip
        refine r_iload X dX13_feed_40 rfl ?_
        refine r_bipush (v := nI 8) X dX13_feed_42 (by decide) ?_
        refine r_icmpN_ge (tgt := 51) X dX13_feed_44 (by decide) (by omega) (by omega) (fun h44 => ?_) (fun h44 => ?_)
        · skip
          refine r_iload X dX13_feed_51 rfl ?_
          refine r_bipush (v := nI 12) X dX13_feed_53 (by decide) ?_
          refine r_icmpN_ge (tgt := 62) X dX13_feed_55 (by decide) (by omega) (by omega) (fun h55 => ?_) (fun h55 => ?_)
          · skip
            refine r_iload X dX13_feed_62 rfl ?_
            refine r_bipush (v := nI 16) X dX13_feed_64 (by decide) ?_
            refine r_icmpN_ge (tgt := 74) X dX13_feed_66 (by decide) (by omega) (by omega) (fun h66 => ?_) (fun h66 => ?_)
            · skip
              refine r_iload X dX13_feed_74 rfl ?_
              first
                | exact e76 (by omega) _ _ (by rw [sel5, if_pos (by omega)])
                | exact e76 (by omega) _ _ (by rw [sel5, if_neg (by omega), if_pos (by omega)])
                | exact e76 (by omega) _ _ (by rw [sel5, if_neg (by omega), if_neg (by omega), if_pos (by omega)])
                | exact e76 (by omega) _ _ (by rw [sel5, if_neg (by omega), if_neg (by omega), if_neg (by omega), if_pos (by omega)])
                | exact e76 (by omega) _ _ (by rw [sel5, if_neg (by omega), if_neg (by omega), if_neg (by omega), if_neg (by omega)])
            · skip
              refine r_iload X dX13_feed_69 rfl ?_
              refine r_goto (tgt := 76) X dX13_feed_71 (by decide) ?_
              first
                | exact e76 (by omega) _ _ (by rw [sel5, if_pos (by omega)])
                | exact e76 (by omega) _ _ (by rw [sel5, if_neg (by omega), if_pos (by omega)])
                | exact e76 (by omega) _ _ (by rw [sel5, if_neg (by omega), if_neg (by omega), if_pos (by omega)])
                | exact e76 (by omega) _ _ (by rw [sel5, if_neg (by omega), if_neg (by omega), if_neg (by omega), if_pos (by omega)])
                | exact e76 (by omega) _ _ (by rw [sel5, if_neg (by omega), if_neg (by omega), if_neg (by omega), if_neg (by omega)])
          · skip
            refine r_iload_n X dX13_feed_58 rfl rfl ?_
            refine r_goto (tgt := 76) X dX13_feed_59 (by decide) ?_
            first
              | exact e76 (by omega) _ _ (by rw [sel5, if_pos (by omega)])
              | exact e76 (by omega) _ _ (by rw [sel5, if_neg (by omega), if_pos (by omega)])
              | exact e76 (by omega) _ _ (by rw [sel5, if_neg (by omega), if_neg (by omega), if_pos (by omega)])
              | exact e76 (by omega) _ _ (by rw [sel5, if_neg (by omega), if_neg (by omega), if_neg (by omega), if_pos (by omega)])
              | exact e76 (by omega) _ _ (by rw [sel5, if_neg (by omega), if_neg (by omega), if_neg (by omega), if_neg (by omega)])
        · skip
          refine r_iload_n X dX13_feed_47 rfl rfl ?_
          refine r_goto (tgt := 76) X dX13_feed_48 (by decide) ?_
          first
            | exact e76 (by omega) _ _ (by rw [sel5, if_pos (by omega)])
            | exact e76 (by omega) _ _ (by rw [sel5, if_neg (by omega), if_pos (by omega)])
            | exact e76 (by omega) _ _ (by rw [sel5, if_neg (by omega), if_neg (by omega), if_pos (by omega)])
            | exact e76 (by omega) _ _ (by rw [sel5, if_neg (by omega), if_neg (by omega), if_neg (by omega), if_pos (by omega)])
            | exact e76 (by omega) _ _ (by rw [sel5, if_neg (by omega), if_neg (by omega), if_neg (by omega), if_neg (by omega)])
      · skip
        refine r_iload_n X dX13_feed_36 rfl rfl ?_
        refine r_goto (tgt := 76) X dX13_feed_37 (by decide) ?_
        first
          | exact e76 (by omega) _ _ (by rw [sel5, if_pos (by omega)])
          | exact e76 (by omega) _ _ (by rw [sel5, if_neg (by omega), if_pos (by omega)])
          | exact e76 (by omega) _ _ (by rw [sel5, if_neg (by omega), if_neg (by omega), if_pos (by omega)])
          | exact e76 (by omega) _ _ (by rw [sel5, if_neg (by omega), if_neg (by omega), if_neg (by omega), if_pos (by omega)])
          | exact e76 (by omega) _ _ (by rw [sel5, if_neg (by omega), if_neg (by omega), if_neg (by omega), if_neg (by omega)])
  refine r_aload_n X dX13_feed_0 rfl rfl ?_
  refine r_iconst (v := 0) X dX13_feed_1 (by decide) ?_
  refine r_putI X dX13_feed_2 fX13_1 wX13_1 (by assumption) rfl rfl ?_
  refine r_world (w' := (S, I, V, J, N)) (by rw [up2_id I h0]) ?_
  refine r_aload_n X dX13_feed_5 rfl rfl ?_
  refine r_getI X dX13_feed_6 fX13_221 (by assumption) (by first | assumption | rfl) ?_
  refine r_bipush (v := 20) X dX13_feed_9 (by decide) ?_
  refine r_iadd X dX13_feed_11 ?_
  refine r_topi (nI (z + 20)) (nI_add z 20) ?_
  refine r_sipush (v := nI 400) X dX13_feed_12 (by decide) ?_
  refine r_icmpN_le (tgt := 20) X dX13_feed_15 (by decide) (by omega) (by omega) (fun h15 => ?_) (fun h15 => ?_)
  · skip
    refine r_iconst (v := nI 0) X dX13_feed_20 (by decide) ?_
    refine r_istore X dX13_feed_21 (by decide) rfl ?_
    exact H (by omega) 0 (by omega) none
  · skip
    refine r_iconst (v := -1) X dX13_feed_18 (by decide) ?_
    refine r_ireturn X dX13_feed_19 rfl (by first | omega | decide | (simp only [rmL, rmA]; omega)) (by first | omega | decide | (simp only [rmL, rmA]; omega)) ?_
    exact ⟨by rw [mFeed, if_neg (by omega)], by rw [mFeed, if_neg (by omega)]⟩
