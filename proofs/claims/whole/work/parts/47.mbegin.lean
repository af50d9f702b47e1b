/-! ===== the reference's Team: begin ===== -/
def mClr (I : Mem) (t : Nat) : Nat → Mem
  | 0 => I
  | j + 1 => up2 (up2 (mClr I t j) (t + 4) j (-1)) (t + 5) j (-1)
def mPuts (I : Mem) (t : Nat) (m l f s p : Int32) : Mem :=
  up2 (up2 (up2 (up2 (up2 (up2 (up2 (up2 (up2 (up2 (up2 (up2 (up2 (up2 (up2 I t 0 m) t 13 l) t 14 f) t 1 l) t 2 f) t 3 s) t 4 p) t 5 0) t 6 0) t 7 0) t 8 0) t 9 0) t 10 (-1)) t 11 0) t 12 0
def mBegin (I : Mem) (t : Nat) (m l f s p : Int32) : Mem := mClr (dBeg (mPuts I t m l f s p) t 16) t 13
set_option maxHeartbeats 2000000 in
set_option maxRecDepth 20000 in
/-- SledHouseModel$Team.begin -/
theorem c_mBegin {E : Ev} (GE : Glob E) (S : Nat → Option (Nat × Nat)) (I : Nat → Nat → Int32) (V : Nat → Nat → Option Nat) (J : Nat → Nat → Int64) (N : Nat) (t : Nat) (m l f s p : Int32) (hT : MtSh S V t) : Ct E yX12_begin cX12_begin 7 none (rmL 0) [.ref t, .int m, .int l, .int f, .int s, .int p] (S, I, V, J, N) (fun v w' => v = none ∧ w' = (S, mBegin I t m l f s p, V, J, N)) := by
  refine Ct.start GE (by decide) rfl (Nat.le_of_ble_eq_true rfl) (fun M X => ?_)
  have X : Cx E M RX12 cX12_begin 7 (rmL 0) none "begin" := X
  refine r_loc (L' := [some (.ref t), some (.int m), some (.int l), some (.int f), some (.int s), some (.int p), none]) rfl ?_
  obtain ⟨hs0, v15, v16, v17, v18, v19, v20, v21, v22, v23, s1, s2, s3, s4, s5, s6, s7, s8, s9⟩ := id hT
  have H2 : ∀ j, j ≤ 13 → G E M 0 0 (qQ E M (rmL 0) (fun v w' => v = none ∧ w' = (S, mBegin I t m l f s p, V, J, N))) 122 [some (.ref t), some (.int m), some (.int l), some (.int f), some (.int s), some (.int p), some (.int (nI j))] [] (S, mClr (dBeg (mPuts I t m l f s p) t 16) t j, V, J, N) := by
    refine loopN 13 (fun j hj ih => ?_)
    refine r_iload X dX12_begin_122 rfl ?_
    refine r_bipush (v := nI 12) X dX12_begin_124 (by decide) ?_
    refine r_icmpN_gt (tgt := 151) X dX12_begin_126 (by decide) (by omega) (by omega) (fun h126 => ?_) (fun h126 => ?_)
    · skip
      refine r_return X dX12_begin_151 (by first | omega | decide | (simp only [rmL, rmA]; omega)) (by first | omega | decide | (simp only [rmL, rmA]; omega)) ?_
      obtain rfl : j = 13 := by omega
      exact ⟨rfl, rfl⟩
    · skip
      refine r_aload_n X dX12_begin_129 rfl rfl ?_
      refine r_getR X dX12_begin_130 fX12_21 (by assumption) (by assumption) ?_
      refine r_iload X dX12_begin_133 rfl ?_
      refine r_iconst (v := -1) X dX12_begin_135 (by decide) ?_
      refine r_iastN X dX12_begin_136 (by assumption) (by omega) (by omega) ?_
      refine r_aload_n X dX12_begin_137 rfl rfl ?_
      refine r_getR X dX12_begin_138 fX12_24 (by assumption) (by assumption) ?_
      refine r_iload X dX12_begin_141 rfl ?_
      refine r_iconst (v := -1) X dX12_begin_143 (by decide) ?_
      refine r_iastN X dX12_begin_144 (by assumption) (by omega) (by omega) ?_
      first | refine r_iincN X dX12_begin_145 rfl (by decide) rfl ?_ | refine r_iinc X dX12_begin_145 rfl rfl (by decide) rfl ?_
      refine r_goto (tgt := 122) X dX12_begin_148 (by decide) ?_
      exact ih (by omega)
  have H1 : ∀ j, j ≤ 16 → G E M 0 0 (qQ E M (rmL 0) (fun v w' => v = none ∧ w' = (S, mBegin I t m l f s p, V, J, N))) 80 [some (.ref t), some (.int m), some (.int l), some (.int f), some (.int s), some (.int p), some (.int (nI j))] [] (S, dBeg (mPuts I t m l f s p) t j, V, J, N) := by
    refine loopN 16 (fun j hj ih => ?_)
    refine r_iload X dX12_begin_80 rfl ?_
    refine r_bipush (v := nI 16) X dX12_begin_82 (by decide) ?_
    refine r_icmpN_ge (tgt := 119) X dX12_begin_84 (by decide) (by omega) (by omega) (fun h84 => ?_) (fun h84 => ?_)
    · skip
      refine r_iconst (v := nI 0) X dX12_begin_119 (by decide) ?_
      refine r_istore X dX12_begin_120 (by decide) rfl ?_
      obtain rfl : j = 16 := by omega
      exact H2 0 (by omega)
    · skip
      refine r_aload_n X dX12_begin_87 rfl rfl ?_
      refine r_getR X dX12_begin_88 fX12_9 (by assumption) (by assumption) ?_
      refine r_iload X dX12_begin_91 rfl ?_
      refine r_sipush (v := 1000) X dX12_begin_93 (by decide) ?_
      refine r_iastN X dX12_begin_96 (by assumption) (by omega) (by omega) ?_
      refine r_aload_n X dX12_begin_97 rfl rfl ?_
      refine r_getR X dX12_begin_98 fX12_15 (by assumption) (by assumption) ?_
      refine r_iload X dX12_begin_101 rfl ?_
      refine r_iconst (v := 0) X dX12_begin_103 (by decide) ?_
      refine r_iastN X dX12_begin_104 (by assumption) (by omega) (by omega) ?_
      refine r_aload_n X dX12_begin_105 rfl rfl ?_
      refine r_getR X dX12_begin_106 fX12_18 (by assumption) (by assumption) ?_
      refine r_iload X dX12_begin_109 rfl ?_
      refine r_iconst (v := -1) X dX12_begin_111 (by decide) ?_
      refine r_iastN X dX12_begin_112 (by assumption) (by omega) (by omega) ?_
      first | refine r_iincN X dX12_begin_113 rfl (by decide) rfl ?_ | refine r_iinc X dX12_begin_113 rfl rfl (by decide) rfl ?_
      refine r_goto (tgt := 80) X dX12_begin_116 (by decide) ?_
      exact ih (by omega)
  refine r_aload_n X dX12_begin_0 rfl rfl ?_
  refine r_iload_n X dX12_begin_1 rfl rfl ?_
  refine r_putI X dX12_begin_2 fX12_39 wX12_39 (by assumption) rfl rfl ?_
  refine r_aload_n X dX12_begin_5 rfl rfl ?_
  refine r_iload_n X dX12_begin_6 rfl rfl ?_
  refine r_putI X dX12_begin_7 fX12_43 wX12_43 (by assumption) rfl rfl ?_
  refine r_aload_n X dX12_begin_10 rfl rfl ?_
  refine r_iload_n X dX12_begin_11 rfl rfl ?_
  refine r_putI X dX12_begin_12 fX12_46 wX12_46 (by assumption) rfl rfl ?_
  refine r_aload_n X dX12_begin_15 rfl rfl ?_
  refine r_iload_n X dX12_begin_16 rfl rfl ?_
  refine r_putI X dX12_begin_17 fX12_49 wX12_49 (by assumption) rfl rfl ?_
  refine r_aload_n X dX12_begin_20 rfl rfl ?_
  refine r_iload_n X dX12_begin_21 rfl rfl ?_
  refine r_putI X dX12_begin_22 fX12_52 wX12_52 (by assumption) rfl rfl ?_
  refine r_aload_n X dX12_begin_25 rfl rfl ?_
  refine r_iload X dX12_begin_26 rfl ?_
  refine r_putI X dX12_begin_28 fX12_55 wX12_55 (by assumption) rfl rfl ?_
  refine r_aload_n X dX12_begin_31 rfl rfl ?_
  refine r_iload X dX12_begin_32 rfl ?_
  refine r_putI X dX12_begin_34 fX12_58 wX12_58 (by assumption) rfl rfl ?_
  refine r_aload_n X dX12_begin_37 rfl rfl ?_
  refine r_iconst (v := 0) X dX12_begin_38 (by decide) ?_
  refine r_putI X dX12_begin_39 fX12_61 wX12_61 (by assumption) rfl rfl ?_
  refine r_aload_n X dX12_begin_42 rfl rfl ?_
  refine r_iconst (v := 0) X dX12_begin_43 (by decide) ?_
  refine r_putI X dX12_begin_44 fX12_64 wX12_64 (by assumption) rfl rfl ?_
  refine r_aload_n X dX12_begin_47 rfl rfl ?_
  refine r_iconst (v := 0) X dX12_begin_48 (by decide) ?_
  refine r_putI X dX12_begin_49 fX12_67 wX12_67 (by assumption) rfl rfl ?_
  refine r_aload_n X dX12_begin_52 rfl rfl ?_
  refine r_iconst (v := 0) X dX12_begin_53 (by decide) ?_
  refine r_putI X dX12_begin_54 fX12_70 wX12_70 (by assumption) rfl rfl ?_
  refine r_aload_n X dX12_begin_57 rfl rfl ?_
  refine r_iconst (v := 0) X dX12_begin_58 (by decide) ?_
  refine r_putI X dX12_begin_59 fX12_73 wX12_73 (by assumption) rfl rfl ?_
  refine r_aload_n X dX12_begin_62 rfl rfl ?_
  refine r_iconst (v := -1) X dX12_begin_63 (by decide) ?_
  refine r_putI X dX12_begin_64 fX12_76 wX12_76 (by assumption) rfl rfl ?_
  refine r_aload_n X dX12_begin_67 rfl rfl ?_
  refine r_iconst (v := 0) X dX12_begin_68 (by decide) ?_
  refine r_putI X dX12_begin_69 fX12_79 wX12_79 (by assumption) rfl rfl ?_
  refine r_aload_n X dX12_begin_72 rfl rfl ?_
  refine r_iconst (v := 0) X dX12_begin_73 (by decide) ?_
  refine r_putI X dX12_begin_74 fX12_82 wX12_82 (by assumption) rfl rfl ?_
  refine r_iconst (v := nI 0) X dX12_begin_77 (by decide) ?_
  refine r_istore X dX12_begin_78 (by decide) rfl ?_
  exact H1 0 (by omega)
