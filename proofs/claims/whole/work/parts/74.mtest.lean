/-! ===== the reference: readTest ===== -/
def rT2 (K : MJ) (g r x : Nat) : Bool × MJ := if K.1 g 26 = 3 then (true, (up2 (up2 (nxt K g).1 (g + 25) (4 * r + x) (K.1 g 29)) (g + 23) r (nI (x + 1)), (nxt K g).2)) else (false, stp K g 1)
def rT1 (K : MJ) (g r x : Nat) : Bool × MJ := if mIs K.1 g 60 = true ∨ mIs K.1 g 62 = true then rT2 (nxt (up2 K.1 (g + 26) (4 * r + x) (bI (mIs K.1 g 60)), K.2) g) g r x else (false, stp K g 1)
def rT (K : MJ) (g r x : Nat) : Bool × MJ :=
  if K.1 g 26 = 2 ∧ mIsW K.1 K.2 g kw_when = false ∧ mIsW K.1 K.2 g kw_and = false ∧ wAct (mIsW K.1 K.2 g) = -1 then
    (if wName (mIsW K.1 K.2 g) = -1 then (false, stp K g 2) else if x = 4 then (false, stp K g 3) else rT1 (nxt (up2 K.1 (g + 24) (4 * r + x) (wName (mIsW K.1 K.2 g)), K.2) g) g r x)
  else (false, stp K g 1)
set_option maxHeartbeats 2000000 in
set_option maxRecDepth 20000 in
/-- SledHouseModel.readTest -/
theorem c_rT {E : Ev} (GE : Glob E) (S : Nat → Option (Nat × Nat)) (K : MJ) (V : Nat → Nat → Option Nat) (N g r x : Nat) (hZ : Strs E) (hs0 : S g = some (12, 0)) (hR : MrSh S V g) (hK : MkOK K.1 g) (hr : r < 108) (hx : K.1 (g + 23) r = nI x) (hx4 : x ≤ 4) : CtX E yX13_readTest cX13_readTest 4 none (rmL 7) [.ref g, .int (nI r)] (S, K.1, V, K.2, N) (PX S V N g (rT K g r x) none) := by
  refine CtX.start GE (by decide) rfl (Nat.le_of_ble_eq_true rfl) (fun M X hx0 => ?_)
  have X : Cx E M RX13 cX13_readTest 4 (rmL 7) none "readTest" := X
  refine r_loc (L' := [some (.ref g), some (.int (nI r)), none, none]) rfl ?_
  obtain ⟨v21, v22, v32, v33, v34, v35, v36, v37, v39, s19, s20, s21, s22, s23, s24, s25, s26, s27⟩ := id hR
  generalize hRR : rT K g r x = RR
  rw [rT] at hRR
  have H118 : ∀ (K1 : MJ) (nm : Int32), MkOK K1.1 g → K1.1 (g + 23) r = nI x → x < 4 → (mIs K1.1 g 60 = true ∨ mIs K1.1 g 62 = true) → rT2 (nxt (up2 K1.1 (g + 26) (4 * r + x) (bI (mIs K1.1 g 60)), K1.2) g) g r x = RR → G E M 0 0 (qX E M (rmL 7) (PX S V N g RR none)) 118 [some (.ref g), some (.int (nI r)), some (.int nm), some (.int (nI (4 * r + x)))] [] (S, K1.1, V, K1.2, N) := by
    intro K1 nm hK1 hx1 hx5 hor he
    generalize hK2 : ((up2 K1.1 (g + 26) (4 * r + x) (bI (mIs K1.1 g 60)), K1.2) : MJ) = K2 at he
    have hK2o : MkOK K2.1 g := by
      rw [← hK2]
      exact hK1.keep (up2_a (by omega)) (up2_a (by omega)) (fun k => up2_a (by omega))
    have hx2 : (nxt K2 g).1 (g + 23) r = nI x := by rw [nxt_o (by omega), ← hK2]; exact (up2_a (by omega)).trans hx1
    have hx3 : (nxt (nxt K2 g) g).1 (g + 23) r = nI x := (nxt_o (by omega)).trans hx2
    have hw1 : (S, up2 K1.1 (g + 26) (4 * r + x) (bI (mIs K1.1 g 60)), V, K1.2, N) = (S, K2.1, V, K2.2, N) := by rw [← hK2]
    rw [rT2] at he
    refine r_aload_n X dX13_readTest_118 rfl rfl ?_
    refine r_getR X dX13_readTest_119 fX13_84 (by assumption) (by assumption) ?_
    refine r_iload_n X dX13_readTest_122 rfl rfl ?_
    refine r_aload_n X dX13_readTest_123 rfl rfl ?_
    refine r_bipush (v := 60) X dX13_readTest_124 (by decide) ?_
    refine q_callV X dX13_readTest_126 mX13_241 cwX13_is (c_mIs GE S _ V _ N g _ hs0) rfl (by assumption) rfl rfl rfl (Nat.le_of_ble_eq_true rfl) ⟨Nat.le_of_ble_eq_true rfl, Nat.le_of_ble_eq_true rfl⟩ ⟨(by first | omega | decide | (simp only [rmL, rmA]; omega)), (by first | omega | decide | (simp only [rmL, rmA]; omega))⟩ ?_
    rintro _ _ ⟨rfl, rfl⟩
    refine r_zastN X dX13_readTest_129 (by assumption) (by omega) (by omega) (narbI _) ?_
    refine r_world hw1 ?_
    refine r_aload_n X dX13_readTest_130 rfl rfl ?_
    refine q_callV X dX13_readTest_131 mX13_189 cwX13_next (c_nxt GE S K2 V N g hs0 hR hK2o) rfl (by assumption) rfl rfl rfl (Nat.le_of_ble_eq_true rfl) ⟨Nat.le_of_ble_eq_true rfl, Nat.le_of_ble_eq_true rfl⟩ ⟨(by first | omega | decide | (simp only [rmL, rmA]; omega)), (by first | omega | decide | (simp only [rmL, rmA]; omega))⟩ ?_
    rintro _ _ ⟨rfl, rfl⟩
    refine r_aload_n X dX13_readTest_134 rfl rfl ?_
    refine r_getR X dX13_readTest_135 fX13_81 (by assumption) (by assumption) ?_
    refine r_iload_n X dX13_readTest_138 rfl rfl ?_
    refine r_aload_n X dX13_readTest_139 rfl rfl ?_
    refine q_callX X dX13_readTest_140 nX13_247.1 nX13_247.2.1 nX13_247.2.2 cwX13_needNumber (c_ndN GE S (nxt K2 g) V N g hs0 hR (MkOK_nxt hK2o)) rfl (by assumption) rfl rfl rfl (Nat.le_of_ble_eq_true rfl) ⟨Nat.le_of_ble_eq_true rfl, Nat.le_of_ble_eq_true rfl⟩ ⟨(by first | omega | decide | (simp only [rmL, rmA]; omega)), (by first | omega | decide | (simp only [rmL, rmA]; omega))⟩ ?_ ?_
    rotate_left
    · rintro x9 w9 ⟨ho, rfl⟩
      obtain ⟨hb140, rfl⟩ := oc_t ho
      refine t_leave X hx0 (by first | omega | decide | (simp only [rmL, rmA]; omega)) (by first | omega | decide | (simp only [rmL, rmA]; omega)) ?_
      rw [ndN] at hb140
      have z1 : ¬ (nxt K2 g).1 g 26 = 3 := fun z => by rw [if_pos z] at hb140; cases hb140
      rw [if_neg z1] at he
      rw [← he]
      exact ⟨rfl, by rw [ndN, if_neg z1]⟩
    rintro v9 w9 ⟨ho, rfl⟩
    obtain ⟨hb140, rfl⟩ := oc_r ho
    have z1 : (nxt K2 g).1 g 26 = 3 := by
      rcases Classical.em ((nxt K2 g).1 g 26 = 3) with z | z
      · exact z
      · rw [ndN, if_neg z] at hb140; cases hb140
    rw [if_pos z1] at he
    refine r_world (w' := (S, (nxt (nxt K2 g) g).1, V, (nxt (nxt K2 g) g).2, N)) (by rw [ndN, if_pos z1]) ?_
    refine r_iastN X dX13_readTest_143 (by assumption) (by omega) (by omega) ?_
    refine r_aload_n X dX13_readTest_144 rfl rfl ?_
    refine r_getR X dX13_readTest_145 fX13_75 (by assumption) (by assumption) ?_
    refine r_iload_n X dX13_readTest_148 rfl rfl ?_
    refine r_dup2 X dX13_readTest_149 rfl rfl ?_
    refine r_ialdN X dX13_readTest_150 (by assumption) (by omega) (by omega) ((up2_a (by omega)).trans hx3) ?_
    refine r_iconst (v := 1) X dX13_readTest_151 (by decide) ?_
    refine r_iadd X dX13_readTest_152 ?_
    refine r_topi (nI (x + 1)) (nI_1 x) ?_
    refine r_iastN X dX13_readTest_153 (by assumption) (by omega) (by omega) ?_
    refine G.toX ?_
    refine r_return X dX13_readTest_154 (by first | omega | decide | (simp only [rmL, rmA]; omega)) (by first | omega | decide | (simp only [rmL, rmA]; omega)) ?_
    rw [← he]
    exact ⟨rfl, rfl⟩
  refine r_aload_n X dX13_readTest_0 rfl rfl ?_
  refine r_getI X dX13_readTest_1 fX13_159 (by assumption) (by first | assumption | rfl) ?_
  refine r_iconst (v := 2) X dX13_readTest_4 (by decide) ?_
  refine r_icmp_ne (tgt := 34) X dX13_readTest_5 (by decide) (fun h5 => ?_) (fun h5 => ?_)
  · skip
    refine r_aload_n X dX13_readTest_34 rfl rfl ?_
    refine r_iconst (v := 1) X dX13_readTest_35 (by decide) ?_
    refine q_callV X dX13_readTest_36 mX13_186 cwX13_stop (c_mStp GE S _ V _ N g _ hs0 hR) rfl (by assumption) rfl rfl rfl (Nat.le_of_ble_eq_true rfl) ⟨Nat.le_of_ble_eq_true rfl, Nat.le_of_ble_eq_true rfl⟩ ⟨(by first | omega | decide | (simp only [rmL, rmA]; omega)), (by first | omega | decide | (simp only [rmL, rmA]; omega))⟩ ?_
    rintro _ _ ⟨rfl, rfl⟩
    refine t_athrow X dX13_readTest_39 hx0 (by first | omega | decide | (simp only [rmL, rmA]; omega)) (by first | omega | decide | (simp only [rmL, rmA]; omega)) ?_
    have hno : ¬ (K.1 g 26 = 2 ∧ mIsW K.1 K.2 g kw_when = false ∧ mIsW K.1 K.2 g kw_and = false ∧ wAct (mIsW K.1 K.2 g) = -1) := by
      rintro ⟨q1, q2, q3, q4⟩
      first | exact h5 q1 | exact absurd ((bI_1 h14).symm.trans q2) (by decide) | exact absurd ((bI_1 h23).symm.trans q3) (by decide) | exact h31 q4
    rw [if_neg hno] at hRR
    rw [← hRR]
    exact ⟨rfl, rfl⟩
  · skip
    refine r_aload_n X dX13_readTest_8 rfl rfl ?_
    refine r_ldcS X dX13_readTest_9 (sX13_230 hZ) (fun u9 hu9 => ?_)
    refine q_callV X dX13_readTest_11 mX13_182 cwX13_isWord (c_mIsW GE S _ V _ N g _ kw_when hZ hs0 (by assumption)) rfl (by assumption) rfl rfl rfl (Nat.le_of_ble_eq_true rfl) ⟨Nat.le_of_ble_eq_true rfl, Nat.le_of_ble_eq_true rfl⟩ ⟨(by first | omega | decide | (simp only [rmL, rmA]; omega)), (by first | omega | decide | (simp only [rmL, rmA]; omega))⟩ ?_
    rintro _ _ ⟨rfl, rfl⟩
    refine r_if_ne (tgt := 34) X dX13_readTest_14 (by decide) (fun h14 => ?_) (fun h14 => ?_)
    · skip
      refine r_aload_n X dX13_readTest_34 rfl rfl ?_
      refine r_iconst (v := 1) X dX13_readTest_35 (by decide) ?_
      refine q_callV X dX13_readTest_36 mX13_186 cwX13_stop (c_mStp GE S _ V _ N g _ hs0 hR) rfl (by assumption) rfl rfl rfl (Nat.le_of_ble_eq_true rfl) ⟨Nat.le_of_ble_eq_true rfl, Nat.le_of_ble_eq_true rfl⟩ ⟨(by first | omega | decide | (simp only [rmL, rmA]; omega)), (by first | omega | decide | (simp only [rmL, rmA]; omega))⟩ ?_
      rintro _ _ ⟨rfl, rfl⟩
      refine t_athrow X dX13_readTest_39 hx0 (by first | omega | decide | (simp only [rmL, rmA]; omega)) (by first | omega | decide | (simp only [rmL, rmA]; omega)) ?_
      have hno : ¬ (K.1 g 26 = 2 ∧ mIsW K.1 K.2 g kw_when = false ∧ mIsW K.1 K.2 g kw_and = false ∧ wAct (mIsW K.1 K.2 g) = -1) := by
        rintro ⟨q1, q2, q3, q4⟩
        first | exact h5 q1 | exact absurd ((bI_1 h14).symm.trans q2) (by decide) | exact absurd ((bI_1 h23).symm.trans q3) (by decide) | exact h31 q4
      rw [if_neg hno] at hRR
      rw [← hRR]
      exact ⟨rfl, rfl⟩
    · skip
      refine r_aload_n X dX13_readTest_17 rfl rfl ?_
      refine r_ldcS X dX13_readTest_18 (sX13_239 hZ) (fun u18 hu18 => ?_)
      refine q_callV X dX13_readTest_20 mX13_182 cwX13_isWord (c_mIsW GE S _ V _ N g _ kw_and hZ hs0 (by assumption)) rfl (by assumption) rfl rfl rfl (Nat.le_of_ble_eq_true rfl) ⟨Nat.le_of_ble_eq_true rfl, Nat.le_of_ble_eq_true rfl⟩ ⟨(by first | omega | decide | (simp only [rmL, rmA]; omega)), (by first | omega | decide | (simp only [rmL, rmA]; omega))⟩ ?_
      rintro _ _ ⟨rfl, rfl⟩
      refine r_if_ne (tgt := 34) X dX13_readTest_23 (by decide) (fun h23 => ?_) (fun h23 => ?_)
      · skip
        refine r_aload_n X dX13_readTest_34 rfl rfl ?_
        refine r_iconst (v := 1) X dX13_readTest_35 (by decide) ?_
        refine q_callV X dX13_readTest_36 mX13_186 cwX13_stop (c_mStp GE S _ V _ N g _ hs0 hR) rfl (by assumption) rfl rfl rfl (Nat.le_of_ble_eq_true rfl) ⟨Nat.le_of_ble_eq_true rfl, Nat.le_of_ble_eq_true rfl⟩ ⟨(by first | omega | decide | (simp only [rmL, rmA]; omega)), (by first | omega | decide | (simp only [rmL, rmA]; omega))⟩ ?_
        rintro _ _ ⟨rfl, rfl⟩
        refine t_athrow X dX13_readTest_39 hx0 (by first | omega | decide | (simp only [rmL, rmA]; omega)) (by first | omega | decide | (simp only [rmL, rmA]; omega)) ?_
        have hno : ¬ (K.1 g 26 = 2 ∧ mIsW K.1 K.2 g kw_when = false ∧ mIsW K.1 K.2 g kw_and = false ∧ wAct (mIsW K.1 K.2 g) = -1) := by
          rintro ⟨q1, q2, q3, q4⟩
          first | exact h5 q1 | exact absurd ((bI_1 h14).symm.trans q2) (by decide) | exact absurd ((bI_1 h23).symm.trans q3) (by decide) | exact h31 q4
        rw [if_neg hno] at hRR
        rw [← hRR]
        exact ⟨rfl, rfl⟩
      · skip
        refine r_aload_n X dX13_readTest_26 rfl rfl ?_
        refine q_callV X dX13_readTest_27 mX13_232 cwX13_actHere (c_mActH GE S _ V _ N g hZ hs0) rfl (by assumption) rfl rfl rfl (Nat.le_of_ble_eq_true rfl) ⟨Nat.le_of_ble_eq_true rfl, Nat.le_of_ble_eq_true rfl⟩ ⟨(by first | omega | decide | (simp only [rmL, rmA]; omega)), (by first | omega | decide | (simp only [rmL, rmA]; omega))⟩ ?_
        rintro _ _ ⟨rfl, rfl⟩
        refine r_iconst (v := -1) X dX13_readTest_30 (by decide) ?_
        refine r_icmp_eq (tgt := 40) X dX13_readTest_31 (by decide) (fun h31 => ?_) (fun h31 => ?_)
        · skip
          refine r_aload_n X dX13_readTest_40 rfl rfl ?_
          refine q_callV X dX13_readTest_41 mX13_244 cwX13_nameHere (c_mNmH GE S _ V _ N g hZ hs0) rfl (by assumption) rfl rfl rfl (Nat.le_of_ble_eq_true rfl) ⟨Nat.le_of_ble_eq_true rfl, Nat.le_of_ble_eq_true rfl⟩ ⟨(by first | omega | decide | (simp only [rmL, rmA]; omega)), (by first | omega | decide | (simp only [rmL, rmA]; omega))⟩ ?_
          rintro _ _ ⟨rfl, rfl⟩
          refine r_istore_n X dX13_readTest_44 rfl (by decide) rfl ?_
          refine r_iload_n X dX13_readTest_45 rfl rfl ?_
          refine r_iconst (v := -1) X dX13_readTest_46 (by decide) ?_
          refine r_icmp_ne (tgt := 56) X dX13_readTest_47 (by decide) (fun h47 => ?_) (fun h47 => ?_)
          · skip
            refine r_aload_n X dX13_readTest_56 rfl rfl ?_
            refine r_getR X dX13_readTest_57 fX13_75 (by assumption) (by assumption) ?_
            refine r_iload_n X dX13_readTest_60 rfl rfl ?_
            refine r_ialdN X dX13_readTest_61 (by assumption) (by omega) (by omega) hx ?_
            refine r_iconst (v := nI 4) X dX13_readTest_62 (by decide) ?_
            refine r_icmpN_ne (tgt := 72) X dX13_readTest_63 (by decide) (by omega) (by omega) (fun h63 => ?_) (fun h63 => ?_)
            · skip
              refine r_iconst (v := 4) X dX13_readTest_72 (by decide) ?_
              refine r_iload_n X dX13_readTest_73 rfl rfl ?_
              refine r_imul X dX13_readTest_74 ?_
              refine r_topi (nI (4 * r)) (pk_mul 4 r) ?_
              refine r_aload_n X dX13_readTest_75 rfl rfl ?_
              refine r_getR X dX13_readTest_76 fX13_75 (by assumption) (by assumption) ?_
              refine r_iload_n X dX13_readTest_79 rfl rfl ?_
              refine r_ialdN X dX13_readTest_80 (by assumption) (by omega) (by omega) hx ?_
              refine r_iadd X dX13_readTest_81 ?_
              refine r_topi (nI (4 * r + x)) (nI_add _ _) ?_
              refine r_istore_n X dX13_readTest_82 rfl (by decide) rfl ?_
              refine r_aload_n X dX13_readTest_83 rfl rfl ?_
              refine r_getR X dX13_readTest_84 fX13_78 (by assumption) (by assumption) ?_
              refine r_iload_n X dX13_readTest_87 rfl rfl ?_
              refine r_iload_n X dX13_readTest_88 rfl rfl ?_
              refine r_iastN X dX13_readTest_89 (by assumption) (by omega) (by omega) ?_
              have hyes : K.1 g 26 = 2 ∧ mIsW K.1 K.2 g kw_when = false ∧ mIsW K.1 K.2 g kw_and = false ∧ wAct (mIsW K.1 K.2 g) = -1 := ⟨h5, bI_0 h14, bI_0 h23, h31⟩
              rw [if_pos hyes, if_neg (show ¬ wName (mIsW K.1 K.2 g) = -1 from h47), if_neg (by omega)] at hRR
              generalize hK1 : ((up2 K.1 (g + 24) (4 * r + x) (wName (mIsW K.1 K.2 g)), K.2) : MJ) = K1 at hRR
              have hK1o : MkOK K1.1 g := by
                rw [← hK1]
                exact hK.keep (up2_a (by omega)) (up2_a (by omega)) (fun k => up2_a (by omega))
              have hx1 : (nxt K1 g).1 (g + 23) r = nI x := by rw [nxt_o (by omega), ← hK1]; exact (up2_a (by omega)).trans hx
              refine r_world (w' := (S, K1.1, V, K1.2, N)) (by rw [← hK1]) ?_
              rw [rT1] at hRR
              refine r_aload_n X dX13_readTest_90 rfl rfl ?_
              refine q_callV X dX13_readTest_91 mX13_189 cwX13_next (c_nxt GE S K1 V N g hs0 hR hK1o) rfl (by assumption) rfl rfl rfl (Nat.le_of_ble_eq_true rfl) ⟨Nat.le_of_ble_eq_true rfl, Nat.le_of_ble_eq_true rfl⟩ ⟨(by first | omega | decide | (simp only [rmL, rmA]; omega)), (by first | omega | decide | (simp only [rmL, rmA]; omega))⟩ ?_
              rintro _ _ ⟨rfl, rfl⟩
              refine r_aload_n X dX13_readTest_94 rfl rfl ?_
              refine r_bipush (v := 60) X dX13_readTest_95 (by decide) ?_
              refine q_callV X dX13_readTest_97 mX13_241 cwX13_is (c_mIs GE S _ V _ N g _ hs0) rfl (by assumption) rfl rfl rfl (Nat.le_of_ble_eq_true rfl) ⟨Nat.le_of_ble_eq_true rfl, Nat.le_of_ble_eq_true rfl⟩ ⟨(by first | omega | decide | (simp only [rmL, rmA]; omega)), (by first | omega | decide | (simp only [rmL, rmA]; omega))⟩ ?_
              rintro _ _ ⟨rfl, rfl⟩
              refine r_if_ne (tgt := 118) X dX13_readTest_100 (by decide) (fun h100 => ?_) (fun h100 => ?_)
              · skip
                have hor : mIs (nxt K1 g).1 g 60 = true ∨ mIs (nxt K1 g).1 g 62 = true := by first | exact Or.inl (bI_1 h100) | exact Or.inr (bI_1 h109)
                rw [if_pos hor] at hRR
                exact H118 (nxt K1 g) _ (MkOK_nxt hK1o) hx1 (by omega) hor hRR
              · skip
                refine r_aload_n X dX13_readTest_103 rfl rfl ?_
                refine r_bipush (v := 62) X dX13_readTest_104 (by decide) ?_
                refine q_callV X dX13_readTest_106 mX13_241 cwX13_is (c_mIs GE S _ V _ N g _ hs0) rfl (by assumption) rfl rfl rfl (Nat.le_of_ble_eq_true rfl) ⟨Nat.le_of_ble_eq_true rfl, Nat.le_of_ble_eq_true rfl⟩ ⟨(by first | omega | decide | (simp only [rmL, rmA]; omega)), (by first | omega | decide | (simp only [rmL, rmA]; omega))⟩ ?_
                rintro _ _ ⟨rfl, rfl⟩
                refine r_if_ne (tgt := 118) X dX13_readTest_109 (by decide) (fun h109 => ?_) (fun h109 => ?_)
                · skip
                  have hor : mIs (nxt K1 g).1 g 60 = true ∨ mIs (nxt K1 g).1 g 62 = true := by first | exact Or.inl (bI_1 h100) | exact Or.inr (bI_1 h109)
                  rw [if_pos hor] at hRR
                  exact H118 (nxt K1 g) _ (MkOK_nxt hK1o) hx1 (by omega) hor hRR
                · skip
                  refine r_aload_n X dX13_readTest_112 rfl rfl ?_
                  refine r_iconst (v := 1) X dX13_readTest_113 (by decide) ?_
                  refine q_callV X dX13_readTest_114 mX13_186 cwX13_stop (c_mStp GE S _ V _ N g _ hs0 hR) rfl (by assumption) rfl rfl rfl (Nat.le_of_ble_eq_true rfl) ⟨Nat.le_of_ble_eq_true rfl, Nat.le_of_ble_eq_true rfl⟩ ⟨(by first | omega | decide | (simp only [rmL, rmA]; omega)), (by first | omega | decide | (simp only [rmL, rmA]; omega))⟩ ?_
                  rintro _ _ ⟨rfl, rfl⟩
                  refine t_athrow X dX13_readTest_117 hx0 (by first | omega | decide | (simp only [rmL, rmA]; omega)) (by first | omega | decide | (simp only [rmL, rmA]; omega)) ?_
                  have hno : ¬ (mIs (nxt K1 g).1 g 60 = true ∨ mIs (nxt K1 g).1 g 62 = true) := by
                    rintro (q | q)
                    · exact absurd ((bI_0 h100).symm.trans q) (by decide)
                    · exact absurd ((bI_0 h109).symm.trans q) (by decide)
                  rw [if_neg hno] at hRR
                  rw [← hRR]
                  exact ⟨rfl, rfl⟩
            · skip
              refine r_aload_n X dX13_readTest_66 rfl rfl ?_
              refine r_iconst (v := 3) X dX13_readTest_67 (by decide) ?_
              refine q_callV X dX13_readTest_68 mX13_186 cwX13_stop (c_mStp GE S _ V _ N g _ hs0 hR) rfl (by assumption) rfl rfl rfl (Nat.le_of_ble_eq_true rfl) ⟨Nat.le_of_ble_eq_true rfl, Nat.le_of_ble_eq_true rfl⟩ ⟨(by first | omega | decide | (simp only [rmL, rmA]; omega)), (by first | omega | decide | (simp only [rmL, rmA]; omega))⟩ ?_
              rintro _ _ ⟨rfl, rfl⟩
              refine t_athrow X dX13_readTest_71 hx0 (by first | omega | decide | (simp only [rmL, rmA]; omega)) (by first | omega | decide | (simp only [rmL, rmA]; omega)) ?_
              have hyes : K.1 g 26 = 2 ∧ mIsW K.1 K.2 g kw_when = false ∧ mIsW K.1 K.2 g kw_and = false ∧ wAct (mIsW K.1 K.2 g) = -1 := ⟨h5, bI_0 h14, bI_0 h23, h31⟩
              rw [if_pos hyes, if_neg (show ¬ wName (mIsW K.1 K.2 g) = -1 from h47), if_pos (by omega)] at hRR
              rw [← hRR]
              exact ⟨rfl, rfl⟩
          · skip
            refine r_aload_n X dX13_readTest_50 rfl rfl ?_
            refine r_iconst (v := 2) X dX13_readTest_51 (by decide) ?_
            refine q_callV X dX13_readTest_52 mX13_186 cwX13_stop (c_mStp GE S _ V _ N g _ hs0 hR) rfl (by assumption) rfl rfl rfl (Nat.le_of_ble_eq_true rfl) ⟨Nat.le_of_ble_eq_true rfl, Nat.le_of_ble_eq_true rfl⟩ ⟨(by first | omega | decide | (simp only [rmL, rmA]; omega)), (by first | omega | decide | (simp only [rmL, rmA]; omega))⟩ ?_
            rintro _ _ ⟨rfl, rfl⟩
            refine t_athrow X dX13_readTest_55 hx0 (by first | omega | decide | (simp only [rmL, rmA]; omega)) (by first | omega | decide | (simp only [rmL, rmA]; omega)) ?_
            have hyes : K.1 g 26 = 2 ∧ mIsW K.1 K.2 g kw_when = false ∧ mIsW K.1 K.2 g kw_and = false ∧ wAct (mIsW K.1 K.2 g) = -1 := ⟨h5, bI_0 h14, bI_0 h23, h31⟩
            rw [if_pos hyes, if_pos (show wName (mIsW K.1 K.2 g) = -1 from h47)] at hRR
            rw [← hRR]
            exact ⟨rfl, rfl⟩
        · skip
          refine r_aload_n X dX13_readTest_34 rfl rfl ?_
          refine r_iconst (v := 1) X dX13_readTest_35 (by decide) ?_
          refine q_callV X dX13_readTest_36 mX13_186 cwX13_stop (c_mStp GE S _ V _ N g _ hs0 hR) rfl (by assumption) rfl rfl rfl (Nat.le_of_ble_eq_true rfl) ⟨Nat.le_of_ble_eq_true rfl, Nat.le_of_ble_eq_true rfl⟩ ⟨(by first | omega | decide | (simp only [rmL, rmA]; omega)), (by first | omega | decide | (simp only [rmL, rmA]; omega))⟩ ?_
          rintro _ _ ⟨rfl, rfl⟩
          refine t_athrow X dX13_readTest_39 hx0 (by first | omega | decide | (simp only [rmL, rmA]; omega)) (by first | omega | decide | (simp only [rmL, rmA]; omega)) ?_
          have hno : ¬ (K.1 g 26 = 2 ∧ mIsW K.1 K.2 g kw_when = false ∧ mIsW K.1 K.2 g kw_and = false ∧ wAct (mIsW K.1 K.2 g) = -1) := by
            rintro ⟨q1, q2, q3, q4⟩
            first | exact h5 q1 | exact absurd ((bI_1 h14).symm.trans q2) (by decide) | exact absurd ((bI_1 h23).symm.trans q3) (by decide) | exact h31 q4
          rw [if_neg hno] at hRR
          rw [← hRR]
          exact ⟨rfl, rfl⟩
