/-! ===== the reference: way ===== -/
def mWay (I : Mem) (g t : Nat) : Nat → Int32
  | 0 => I t 7
  | j + 1 => mWay I g t j + I (g + 1) j
set_option maxHeartbeats 2000000 in
set_option maxRecDepth 20000 in
/-- SledHouseModel.way -/
theorem c_mWay {E : Ev} (GE : Glob E) (S : Nat → Option (Nat × Nat)) (I : Nat → Nat → Int32) (V : Nat → Nat → Option Nat) (J : Nat → Nat → Int64) (N : Nat) (g t l : Nat) (hM : MdSh S V g) (hT : MtSh S V t) (hl : I t 6 = nI l) (hl12 : l ≤ 12) : Ct E yX13_way cX13_way 4 (some .int) (rmL 0) [.ref g, .ref t] (S, I, V, J, N) (fun v w' => v = some (.int (mWay I g t l)) ∧ w' = (S, I, V, J, N)) := by
  refine Ct.start GE (by decide) rfl (Nat.le_of_ble_eq_true rfl) (fun M X => ?_)
  have X : Cx E M RX13 cX13_way 4 (rmL 0) (some .int) "way" := X
  refine r_loc (L' := [some (.ref g), some (.ref t), none, none]) rfl ?_
  obtain ⟨hs0, v8, v9, v10, v11, v16, v17, v18, v19, v20, s1, s2, s3, s4, s5, s6, s7, s8, hOt, hTe, hKt⟩ := id hM
  have ts0 := hT.1
  have H : ∀ j, j ≤ l → G E M 0 0 (qQ E M (rmL 0) (fun v w' => v = some (.int (mWay I g t l)) ∧ w' = (S, I, V, J, N))) 7 [some (.ref g), some (.ref t), some (.int (mWay I g t j)), some (.int (nI j))] [] (S, I, V, J, N) := by
    refine loopN l (fun j hj ih => ?_)
    refine r_iload_n X dX13_way_7 rfl rfl ?_
    refine r_aload_n X dX13_way_8 rfl rfl ?_
    refine r_getI X dX13_way_9 fX13_307 (by assumption) (by first | assumption | rfl) ?_
    refine r_icmpN_ge (tgt := 30) X dX13_way_12 (by decide) (by omega) (by omega) (fun h12 => ?_) (fun h12 => ?_)
    · skip
      refine r_iload_n X dX13_way_30 rfl rfl ?_
      refine r_ireturn X dX13_way_31 rfl (by first | omega | decide | (simp only [rmL, rmA]; omega)) (by first | omega | decide | (simp only [rmL, rmA]; omega)) ?_
      obtain rfl : j = l := by omega
      exact ⟨rfl, rfl⟩
    · skip
      refine r_iload_n X dX13_way_15 rfl rfl ?_
      refine r_aload_n X dX13_way_16 rfl rfl ?_
      refine r_getR X dX13_way_17 fX13_22 (by assumption) (by assumption) ?_
      refine r_iload_n X dX13_way_20 rfl rfl ?_
      refine r_ialdN X dX13_way_21 (by assumption) (by omega) (by omega) (by first | assumption | rfl) ?_
      refine r_iadd X dX13_way_22 ?_
      refine r_istore_n X dX13_way_23 rfl (by decide) rfl ?_
      first | refine r_iincN X dX13_way_24 rfl (by decide) rfl ?_ | refine r_iinc X dX13_way_24 rfl rfl (by decide) rfl ?_
      refine r_goto (tgt := 7) X dX13_way_27 (by decide) ?_
      exact ih (by omega)
  refine r_aload_n X dX13_way_0 rfl rfl ?_
  refine r_getI X dX13_way_1 fX13_304 (by assumption) (by first | assumption | rfl) ?_
  refine r_istore_n X dX13_way_4 rfl (by decide) rfl ?_
  refine r_iconst (v := nI 0) X dX13_way_5 (by decide) ?_
  refine r_istore_n X dX13_way_6 rfl (by decide) rfl ?_
  exact H 0 (by omega)
