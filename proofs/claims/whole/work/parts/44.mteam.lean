/-! ===== the reference's Team ===== -/
def MtSh (S : Nat → Option (Nat × Nat)) (V : Nat → Nat → Option Nat) (t : Nat) : Prop := S t = some (11, 0) ∧ V t 15 = some (t + 1) ∧ V t 16 = some (t + 2) ∧ V t 17 = some (t + 3) ∧ V t 18 = some (t + 4) ∧ V t 19 = some (t + 5) ∧ V t 20 = some (t + 6) ∧ V t 21 = some (t + 7) ∧ V t 22 = some (t + 8) ∧ V t 23 = some (t + 9) ∧ S (t + 1) = some (100, 16) ∧ S (t + 2) = some (100, 16) ∧ S (t + 3) = some (100, 16) ∧ S (t + 4) = some (100, 13) ∧ S (t + 5) = some (100, 13) ∧ S (t + 6) = some (100, 2000) ∧ S (t + 7) = some (100, 2000) ∧ S (t + 8) = some (100, 4) ∧ S (t + 9) = some (100, 4)
def mOf (I : Mem) (t : Nat) (x : Int32) : Nat → Int32
  | 0 => 0
  | j + 1 => mOf I t x j + (if I (t + 2) j = x then 1 else 0)
set_option maxHeartbeats 2000000 in
set_option maxRecDepth 20000 in
/-- SledHouseModel$Team.of -/
theorem c_mOf {E : Ev} (GE : Glob E) (S : Nat → Option (Nat × Nat)) (I : Nat → Nat → Int32) (V : Nat → Nat → Option Nat) (J : Nat → Nat → Int64) (N : Nat) (t m : Nat) (x : Int32) (hT : MtSh S V t) (hm : I t 0 = nI m) (hm6 : m ≤ 16) : Ct E yX12_of cX12_of 4 (some .int) (rmL 0) [.ref t, .int x] (S, I, V, J, N) (fun v w' => v = some (.int (mOf I t x m)) ∧ w' = (S, I, V, J, N)) := by
  refine Ct.start GE (by decide) rfl (Nat.le_of_ble_eq_true rfl) (fun M X => ?_)
  have X : Cx E M RX12 cX12_of 4 (rmL 0) (some .int) "of" := X
  refine r_loc (L' := [some (.ref t), some (.int x), none, none]) rfl ?_
  obtain ⟨hs0, v15, v16, v17, v18, v19, v20, v21, v22, v23, s1, s2, s3, s4, s5, s6, s7, s8, s9⟩ := id hT
  have H : ∀ j, j ≤ m → G E M 0 0 (qQ E M (rmL 0) (fun v w' => v = some (.int (mOf I t x m)) ∧ w' = (S, I, V, J, N))) 4 [some (.ref t), some (.int x), some (.int (mOf I t x j)), some (.int (nI j))] [] (S, I, V, J, N) := by
    refine loopN m (fun j hj ih => ?_)
    refine r_iload_n X dX12_of_4 rfl rfl ?_
    refine r_aload_n X dX12_of_5 rfl rfl ?_
    refine r_getI X dX12_of_6 fX12_39 (by assumption) (by first | assumption | rfl) ?_
    refine r_icmpN_ge (tgt := 36) X dX12_of_9 (by decide) (by omega) (by omega) (fun h9 => ?_) (fun h9 => ?_)
    · skip
      refine r_iload_n X dX12_of_36 rfl rfl ?_
      refine r_ireturn X dX12_of_37 rfl (by first | omega | decide | (simp only [rmL, rmA]; omega)) (by first | omega | decide | (simp only [rmL, rmA]; omega)) ?_
      obtain rfl : j = m := by omega
      exact ⟨rfl, rfl⟩
    · skip
      refine r_iload_n X dX12_of_12 rfl rfl ?_
      refine r_aload_n X dX12_of_13 rfl rfl ?_
      refine r_getR X dX12_of_14 fX12_15 (by assumption) (by assumption) ?_
      refine r_iload_n X dX12_of_17 rfl rfl ?_
      refine r_ialdN X dX12_of_18 (by assumption) (by omega) (by omega) (by first | assumption | rfl) ?_
      refine r_iload_n X dX12_of_19 rfl rfl ?_
      refine r_icmp_ne (tgt := 27) X dX12_of_20 (by decide) (fun h20 => ?_) (fun h20 => ?_)
      · skip
        refine r_iconst (v := 0) X dX12_of_27 (by decide) ?_
        have e : ∀ y : Int32, y = (if I (t + 2) j = x then 1 else 0) → mOf I t x j + y = mOf I t x (j + 1) := fun y hy => by rw [mOf, hy]
        refine r_iadd X dX12_of_28 ?_
        refine r_topi (mOf I t x (j + 1)) (by first | exact e 1 (by rw [if_pos h20]) | exact e 0 (by rw [if_neg h20])) ?_
        refine r_istore_n X dX12_of_29 rfl (by decide) rfl ?_
        first | refine r_iincN X dX12_of_30 rfl (by decide) rfl ?_ | refine r_iinc X dX12_of_30 rfl rfl (by decide) rfl ?_
        refine r_goto (tgt := 4) X dX12_of_33 (by decide) ?_
        exact ih (by omega)
      · skip
        refine r_iconst (v := 1) X dX12_of_23 (by decide) ?_
        refine r_goto (tgt := 28) X dX12_of_24 (by decide) ?_
        have e : ∀ y : Int32, y = (if I (t + 2) j = x then 1 else 0) → mOf I t x j + y = mOf I t x (j + 1) := fun y hy => by rw [mOf, hy]
        refine r_iadd X dX12_of_28 ?_
        refine r_topi (mOf I t x (j + 1)) (by first | exact e 1 (by rw [if_pos h20]) | exact e 0 (by rw [if_neg h20])) ?_
        refine r_istore_n X dX12_of_29 rfl (by decide) rfl ?_
        first | refine r_iincN X dX12_of_30 rfl (by decide) rfl ?_ | refine r_iinc X dX12_of_30 rfl rfl (by decide) rfl ?_
        refine r_goto (tgt := 4) X dX12_of_33 (by decide) ?_
        exact ih (by omega)
  refine r_iconst (v := 0) X dX12_of_0 (by decide) ?_
  refine r_istore_n X dX12_of_1 rfl (by decide) rfl ?_
  refine r_iconst (v := nI 0) X dX12_of_2 (by decide) ?_
  refine r_istore_n X dX12_of_3 rfl (by decide) rfl ?_
  exact H 0 (by omega)
set_option maxHeartbeats 2000000 in
set_option maxRecDepth 20000 in
/-- SledHouseModel$Team.gain -/
theorem c_mGain {E : Ev} (GE : Glob E) (S : Nat → Option (Nat × Nat)) (I : Nat → Nat → Int32) (V : Nat → Nat → Option Nat) (J : Nat → Nat → Int64) (N : Nat) (t m : Nat) (x : Int32) (hT : MtSh S V t) (hm : I t 0 = nI m) (hm6 : m ≤ 16) : Ct E yX12_gain cX12_gain 3 none (rmL 1) [.ref t, .int x] (S, I, V, J, N) (fun v w' => v = none ∧ w' = (S, dGain I t x m, V, J, N)) := by
  refine Ct.start GE (by decide) rfl (Nat.le_of_ble_eq_true rfl) (fun M X => ?_)
  have X : Cx E M RX12 cX12_gain 3 (rmL 1) none "gain" := X
  refine r_loc (L' := [some (.ref t), some (.int x), none]) rfl ?_
  obtain ⟨hs0, v15, v16, v17, v18, v19, v20, v21, v22, v23, s1, s2, s3, s4, s5, s6, s7, s8, s9⟩ := id hT
  have hd : ∀ j, dGain I t x j t 0 = nI m := fun j => by
    have : ∀ j, dGain I t x j t 0 = I t 0 := fun j => by
      induction j with
      | zero => rfl
      | succ j ih =>
        rw [dGain]
        split
        · exact (up2_a (by omega)).trans ih
        · exact ih
    exact (this j).trans hm
  have H : ∀ j, j ≤ m → G E M 0 0 (qQ E M (rmL 1) (fun v w' => v = none ∧ w' = (S, dGain I t x m, V, J, N))) 2 [some (.ref t), some (.int x), some (.int (nI j))] [] (S, dGain I t x j, V, J, N) := by
    refine loopN m (fun j hj ih => ?_)
    have hj0 := hd j
    refine r_iload_n X dX12_gain_2 rfl rfl ?_
    refine r_aload_n X dX12_gain_3 rfl rfl ?_
    refine r_getI X dX12_gain_4 fX12_39 (by assumption) hj0 ?_
    refine r_icmpN_ge (tgt := 45) X dX12_gain_7 (by decide) (by omega) (by omega) (fun h7 => ?_) (fun h7 => ?_)
    · skip
      refine r_return X dX12_gain_45 (by first | omega | decide | (simp only [rmL, rmA]; omega)) (by first | omega | decide | (simp only [rmL, rmA]; omega)) ?_
      obtain rfl : j = m := by omega
      exact ⟨rfl, rfl⟩
    · skip
      refine r_aload_n X dX12_gain_10 rfl rfl ?_
      refine r_getR X dX12_gain_11 fX12_15 (by assumption) (by assumption) ?_
      refine r_iload_n X dX12_gain_14 rfl rfl ?_
      refine r_ialdN X dX12_gain_15 (by assumption) (by omega) (by omega) (by first | assumption | rfl) ?_
      refine r_if_ne (tgt := 39) X dX12_gain_16 (by decide) (fun h16 => ?_) (fun h16 => ?_)
      · skip
        first
          | (refine r_world (w' := (S, dGain I t x (j + 1), V, J, N)) (by rw [dGain, if_pos h16]) ?_
             refine r_iincN X dX12_gain_39 rfl (by decide) rfl ?_
             refine r_goto (tgt := 2) X dX12_gain_42 (by decide) ?_
             exact ih (by omega))
          | (refine r_world (w' := (S, dGain I t x (j + 1), V, J, N)) (by rw [dGain, if_neg h16]) ?_
             refine r_iincN X dX12_gain_39 rfl (by decide) rfl ?_
             refine r_goto (tgt := 2) X dX12_gain_42 (by decide) ?_
             exact ih (by omega))
      · skip
        refine r_aload_n X dX12_gain_19 rfl rfl ?_
        refine r_getR X dX12_gain_20 fX12_9 (by assumption) (by assumption) ?_
        refine r_iload_n X dX12_gain_23 rfl rfl ?_
        refine r_sipush (v := 1000) X dX12_gain_24 (by decide) ?_
        refine r_aload_n X dX12_gain_27 rfl rfl ?_
        refine r_getR X dX12_gain_28 fX12_9 (by assumption) (by assumption) ?_
        refine r_iload_n X dX12_gain_31 rfl rfl ?_
        refine r_ialdN X dX12_gain_32 (by assumption) (by omega) (by omega) (by first | assumption | rfl) ?_
        refine r_iload_n X dX12_gain_33 rfl rfl ?_
        refine r_iadd X dX12_gain_34 ?_
        refine r_mmin X dX12_gain_35 mmX12_93 (Nat.le_of_ble_eq_true rfl) (Nat.le_of_ble_eq_true rfl) (by first | omega | decide | (simp only [rmL, rmA]; omega)) (by first | omega | decide | (simp only [rmL, rmA]; omega)) ?_
        refine r_iastN X dX12_gain_38 (by assumption) (by omega) (by omega) ?_
        first
          | (refine r_world (w' := (S, dGain I t x (j + 1), V, J, N)) (by rw [dGain, if_pos h16]) ?_
             refine r_iincN X dX12_gain_39 rfl (by decide) rfl ?_
             refine r_goto (tgt := 2) X dX12_gain_42 (by decide) ?_
             exact ih (by omega))
          | (refine r_world (w' := (S, dGain I t x (j + 1), V, J, N)) (by rw [dGain, if_neg h16]) ?_
             refine r_iincN X dX12_gain_39 rfl (by decide) rfl ?_
             refine r_goto (tgt := 2) X dX12_gain_42 (by decide) ?_
             exact ih (by omega))
  refine r_iconst (v := nI 0) X dX12_gain_0 (by decide) ?_
  refine r_istore_n X dX12_gain_1 rfl (by decide) rfl ?_
  exact H 0 (by omega)
def mGap (I : Mem) (t : Nat) (x : Int32) : Nat → Bool
  | 0 => false
  | j + 1 => mGap I t x j || (decide (I (t + 8) j ≤ x) && decide (x ≤ I (t + 9) j))
set_option maxHeartbeats 2000000 in
set_option maxRecDepth 20000 in
/-- SledHouseModel$Team.inGap -/
theorem c_mGap {E : Ev} (GE : Glob E) (S : Nat → Option (Nat × Nat)) (I : Nat → Nat → Int32) (V : Nat → Nat → Option Nat) (J : Nat → Nat → Int64) (N : Nat) (t m : Nat) (x : Int32) (hT : MtSh S V t) (hm : I t 12 = nI m) (hm4 : m ≤ 4) : Ct E yX12_inGap cX12_inGap 4 (some .boolean) (rmL 0) [.ref t, .int x] (S, I, V, J, N) (fun v w' => v = some (.int (bI (mGap I t x m))) ∧ w' = (S, I, V, J, N)) := by
  refine Ct.start GE (by decide) rfl (Nat.le_of_ble_eq_true rfl) (fun M X => ?_)
  have X : Cx E M RX12 cX12_inGap 4 (rmL 0) (some .boolean) "inGap" := X
  refine r_loc (L' := [some (.ref t), some (.int x), none, none]) rfl ?_
  obtain ⟨hs0, v15, v16, v17, v18, v19, v20, v21, v22, v23, s1, s2, s3, s4, s5, s6, s7, s8, s9⟩ := id hT
  have H : ∀ j, j ≤ m → G E M 0 0 (qQ E M (rmL 0) (fun v w' => v = some (.int (bI (mGap I t x m))) ∧ w' = (S, I, V, J, N))) 4 [some (.ref t), some (.int x), some (.int (bI (mGap I t x j))), some (.int (nI j))] [] (S, I, V, J, N) := by
    refine loopN m (fun j hj ih => ?_)
    refine r_iload_n X dX12_inGap_4 rfl rfl ?_
    refine r_aload_n X dX12_inGap_5 rfl rfl ?_
    refine r_getI X dX12_inGap_6 fX12_82 (by assumption) (by first | assumption | rfl) ?_
    refine r_icmpN_ge (tgt := 48) X dX12_inGap_9 (by decide) (by omega) (by omega) (fun h9 => ?_) (fun h9 => ?_)
    · skip
      refine r_iload_n X dX12_inGap_48 rfl rfl ?_
      refine r_ireturn X dX12_inGap_49 (narbI _) (by first | omega | decide | (simp only [rmL, rmA]; omega)) (by first | omega | decide | (simp only [rmL, rmA]; omega)) ?_
      obtain rfl : j = m := by omega
      exact ⟨rfl, rfl⟩
    · skip
      refine r_iload_n X dX12_inGap_12 rfl rfl ?_
      refine r_if_ne (tgt := 36) X dX12_inGap_13 (by decide) (fun h13 => ?_) (fun h13 => ?_)
      · skip
        refine r_iconst (v := 1) X dX12_inGap_36 (by decide) ?_
        refine r_goto (tgt := 41) X dX12_inGap_37 (by decide) ?_
        have e : ∀ y : Int32, y = bI (mGap I t x (j + 1)) → G E M 0 0 (qQ E M (rmL 0) (fun v w' => v = some (.int (bI (mGap I t x m))) ∧ w' = (S, I, V, J, N))) 41 [some (.ref t), some (.int x), some (.int (bI (mGap I t x j))), some (.int (nI j))] [.int y] (S, I, V, J, N) := fun y hy => by
          rw [hy]
          refine r_istore_n X dX12_inGap_41 rfl (by decide) rfl ?_
          first | refine r_iincN X dX12_inGap_42 rfl (by decide) rfl ?_ | refine r_iinc X dX12_inGap_42 rfl rfl (by decide) rfl ?_
          refine r_goto (tgt := 4) X dX12_inGap_45 (by decide) ?_
          exact ih (by omega)
        first
          | exact e 1 (by rw [mGap, bI_1 h13]; rfl)
          | exact e 1 (by rw [mGap, decide_eq_true (Int32.not_lt.mp h23), decide_eq_true (Int32.not_lt.mp h33), Bool.and_true, Bool.or_true]; rfl)
          | exact e 0 (by rw [mGap, bI_0 h13, decide_eq_false (Int32.not_le.mpr h23)]; rfl)
          | exact e 0 (by rw [mGap, bI_0 h13, decide_eq_false (Int32.not_le.mpr h33), Bool.and_false]; rfl)
      · skip
        refine r_aload_n X dX12_inGap_16 rfl rfl ?_
        refine r_getR X dX12_inGap_17 fX12_33 (by assumption) (by assumption) ?_
        refine r_iload_n X dX12_inGap_20 rfl rfl ?_
        refine r_ialdN X dX12_inGap_21 (by assumption) (by omega) (by omega) (by first | assumption | rfl) ?_
        refine r_iload_n X dX12_inGap_22 rfl rfl ?_
        refine r_icmp_gt (tgt := 40) X dX12_inGap_23 (by decide) (fun h23 => ?_) (fun h23 => ?_)
        · skip
          refine r_iconst (v := 0) X dX12_inGap_40 (by decide) ?_
          have e : ∀ y : Int32, y = bI (mGap I t x (j + 1)) → G E M 0 0 (qQ E M (rmL 0) (fun v w' => v = some (.int (bI (mGap I t x m))) ∧ w' = (S, I, V, J, N))) 41 [some (.ref t), some (.int x), some (.int (bI (mGap I t x j))), some (.int (nI j))] [.int y] (S, I, V, J, N) := fun y hy => by
            rw [hy]
            refine r_istore_n X dX12_inGap_41 rfl (by decide) rfl ?_
            first | refine r_iincN X dX12_inGap_42 rfl (by decide) rfl ?_ | refine r_iinc X dX12_inGap_42 rfl rfl (by decide) rfl ?_
            refine r_goto (tgt := 4) X dX12_inGap_45 (by decide) ?_
            exact ih (by omega)
          first
            | exact e 1 (by rw [mGap, bI_1 h13]; rfl)
            | exact e 1 (by rw [mGap, decide_eq_true (Int32.not_lt.mp h23), decide_eq_true (Int32.not_lt.mp h33), Bool.and_true, Bool.or_true]; rfl)
            | exact e 0 (by rw [mGap, bI_0 h13, decide_eq_false (Int32.not_le.mpr h23)]; rfl)
            | exact e 0 (by rw [mGap, bI_0 h13, decide_eq_false (Int32.not_le.mpr h33), Bool.and_false]; rfl)
        · skip
          refine r_iload_n X dX12_inGap_26 rfl rfl ?_
          refine r_aload_n X dX12_inGap_27 rfl rfl ?_
          refine r_getR X dX12_inGap_28 fX12_36 (by assumption) (by assumption) ?_
          refine r_iload_n X dX12_inGap_31 rfl rfl ?_
          refine r_ialdN X dX12_inGap_32 (by assumption) (by omega) (by omega) (by first | assumption | rfl) ?_
          refine r_icmp_gt (tgt := 40) X dX12_inGap_33 (by decide) (fun h33 => ?_) (fun h33 => ?_)
          · skip
            refine r_iconst (v := 0) X dX12_inGap_40 (by decide) ?_
            have e : ∀ y : Int32, y = bI (mGap I t x (j + 1)) → G E M 0 0 (qQ E M (rmL 0) (fun v w' => v = some (.int (bI (mGap I t x m))) ∧ w' = (S, I, V, J, N))) 41 [some (.ref t), some (.int x), some (.int (bI (mGap I t x j))), some (.int (nI j))] [.int y] (S, I, V, J, N) := fun y hy => by
              rw [hy]
              refine r_istore_n X dX12_inGap_41 rfl (by decide) rfl ?_
              first | refine r_iincN X dX12_inGap_42 rfl (by decide) rfl ?_ | refine r_iinc X dX12_inGap_42 rfl rfl (by decide) rfl ?_
              refine r_goto (tgt := 4) X dX12_inGap_45 (by decide) ?_
              exact ih (by omega)
            first
              | exact e 1 (by rw [mGap, bI_1 h13]; rfl)
              | exact e 1 (by rw [mGap, decide_eq_true (Int32.not_lt.mp h23), decide_eq_true (Int32.not_lt.mp h33), Bool.and_true, Bool.or_true]; rfl)
              | exact e 0 (by rw [mGap, bI_0 h13, decide_eq_false (Int32.not_le.mpr h23)]; rfl)
              | exact e 0 (by rw [mGap, bI_0 h13, decide_eq_false (Int32.not_le.mpr h33), Bool.and_false]; rfl)
          · skip
            refine r_iconst (v := 1) X dX12_inGap_36 (by decide) ?_
            refine r_goto (tgt := 41) X dX12_inGap_37 (by decide) ?_
            have e : ∀ y : Int32, y = bI (mGap I t x (j + 1)) → G E M 0 0 (qQ E M (rmL 0) (fun v w' => v = some (.int (bI (mGap I t x m))) ∧ w' = (S, I, V, J, N))) 41 [some (.ref t), some (.int x), some (.int (bI (mGap I t x j))), some (.int (nI j))] [.int y] (S, I, V, J, N) := fun y hy => by
              rw [hy]
              refine r_istore_n X dX12_inGap_41 rfl (by decide) rfl ?_
              first | refine r_iincN X dX12_inGap_42 rfl (by decide) rfl ?_ | refine r_iinc X dX12_inGap_42 rfl rfl (by decide) rfl ?_
              refine r_goto (tgt := 4) X dX12_inGap_45 (by decide) ?_
              exact ih (by omega)
            first
              | exact e 1 (by rw [mGap, bI_1 h13]; rfl)
              | exact e 1 (by rw [mGap, decide_eq_true (Int32.not_lt.mp h23), decide_eq_true (Int32.not_lt.mp h33), Bool.and_true, Bool.or_true]; rfl)
              | exact e 0 (by rw [mGap, bI_0 h13, decide_eq_false (Int32.not_le.mpr h23)]; rfl)
              | exact e 0 (by rw [mGap, bI_0 h13, decide_eq_false (Int32.not_le.mpr h33), Bool.and_false]; rfl)
  refine r_iconst (v := 0) X dX12_inGap_0 (by decide) ?_
  refine r_istore_n X dX12_inGap_1 rfl (by decide) rfl ?_
  refine r_iconst (v := nI 0) X dX12_inGap_2 (by decide) ?_
  refine r_istore_n X dX12_inGap_3 rfl (by decide) rfl ?_
  exact H 0 (by omega)
