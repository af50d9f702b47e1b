/-! ===== the reference: bytes and words ===== -/
section L2
variable {E : Ev} {M : Mc} {own : String} {cc : ByteArray} {nL : Nat} {rm : Room} {ret : Option FieldType} {nm : String} {cells slots : Nat} {Q : State → Prop} {pc : Nat} {L : List (Option Value)} {st : List Value} {w : Wd}
theorem r_ldc2 {idx : Nat} {v : Int64} (X : Cx E M own cc nL rm ret nm) (hd : decode cc pc = .ok (.ldc2_w idx, 3)) (hc : Cond.constantLong own idx v ∈ lw_tbl) (kk : G E M cells slots Q (pc + 3) L (.long v :: st) w) : G E M cells slots Q pc L st w := fun H locs ls hR hl hls => lv_ldc2 X.hx X.hb X.hown (X.word hc (Or.inl rfl)) hd (kk H locs ls hR hl hls)
end L2
def mByte (I : Mem) (g e k : Nat) : Int32 := if k < e then I (g + 20) k &&& 255 else -1
set_option maxHeartbeats 2000000 in
set_option maxRecDepth 20000 in
/-- SledHouseModel.byteAt -/
theorem c_mByte {E : Ev} (GE : Glob E) (S : Nat → Option (Nat × Nat)) (I : Nat → Nat → Int32) (V : Nat → Nat → Option Nat) (J : Nat → Nat → Int64) (N : Nat) (g e k : Nat) (hs0 : S g = some (12, 0)) (hR : MrSh S V g) (he : I g 24 = nI e) (he4 : e ≤ 400) (hk : k < 1000) : Ct E yX13_byteAt cX13_byteAt 2 (some .int) (rmL 0) [.ref g, .int (nI k)] (S, I, V, J, N) (fun v w' => v = some (.int (mByte I g e k)) ∧ w' = (S, I, V, J, N)) := by
  refine Ct.start GE (by decide) rfl (Nat.le_of_ble_eq_true rfl) (fun M X => ?_)
  have X : Cx E M RX13 cX13_byteAt 2 (rmL 0) (some .int) "byteAt" := X
  refine r_loc (L' := [some (.ref g), some (.int (nI k))]) rfl ?_
  obtain ⟨v21, v22, v32, v33, v34, v35, v36, v37, v39, s19, s20, s21, s22, s23, s24, s25, s26, s27⟩ := id hR
  refine r_iload_n X dX13_byteAt_0 rfl rfl ?_
  refine r_aload_n X dX13_byteAt_1 rfl rfl ?_
  refine r_getI X dX13_byteAt_2 fX13_139 (by assumption) (by first | assumption | rfl) ?_
  refine r_icmpN_ge (tgt := 21) X dX13_byteAt_5 (by decide) (by omega) (by omega) (fun h5 => ?_) (fun h5 => ?_)
  · skip
    refine r_iconst (v := -1) X dX13_byteAt_21 (by decide) ?_
    refine r_ireturn X dX13_byteAt_22 rfl (by first | omega | decide | (simp only [rmL, rmA]; omega)) (by first | omega | decide | (simp only [rmL, rmA]; omega)) ?_
    refine ⟨?_, rfl⟩
    first | (rw [mByte, if_pos (by omega)]; done) | (rw [mByte, if_neg (by omega)]; done)
  · skip
    refine r_aload_n X dX13_byteAt_8 rfl rfl ?_
    refine r_getR X dX13_byteAt_9 fX13_65 (by assumption) (by assumption) ?_
    refine r_iload_n X dX13_byteAt_12 rfl rfl ?_
    refine r_baldN X dX13_byteAt_13 (by assumption) (by omega) (by omega) (by first | assumption | rfl) ?_
    refine r_sipush (v := 255) X dX13_byteAt_14 (by decide) ?_
    refine r_iand X dX13_byteAt_17 ?_
    refine r_goto (tgt := 22) X dX13_byteAt_18 (by decide) ?_
    refine r_ireturn X dX13_byteAt_22 rfl (by first | omega | decide | (simp only [rmL, rmA]; omega)) (by first | omega | decide | (simp only [rmL, rmA]; omega)) ?_
    refine ⟨?_, rfl⟩
    first | (rw [mByte, if_pos (by omega)]; done) | (rw [mByte, if_neg (by omega)]; done)
/-- a word as a number: the places q .. q + j - 1 -/
def wTo (f : Nat → Int32) (q : Nat) : Nat → Int64
  | 0 => 0
  | j + 1 => 32 * wTo f q j + (f (q + j) - 97 + 1).toInt64
def wOf (bs : List Int32) : Int64 := wTo (fun i => bs.getD i 0 &&& 255) 0 bs.length
set_option maxHeartbeats 2000000 in
set_option maxRecDepth 20000 in
/-- SledHouseModel.wordOf -/
theorem c_wordOf {E : Ev} (GE : Glob E) (u : Nat) (bs : List Int32) (w : Wd) (hZ : Stat E) (hu : StrAt E u bs) : Ct E yX13_wordOf cX13_wordOf 4 (some .long) (rmL 4) [.ref u] w (fun v w' => v = some (.long (wOf bs)) ∧ w' = w) := by
  refine Ct.start GE (by decide) rfl (Nat.le_of_ble_eq_true rfl) (fun M X => ?_)
  have X : Cx E M RX13 cX13_wordOf 4 (rmL 4) (some .long) "wordOf" := X
  refine r_loc (L' := [some (.ref u), none, none, none]) rfl ?_
  have hlen : bs.length < 1000 := hu.2.2.1
  have H : ∀ j, j ≤ bs.length → G E M 0 0 (qQ E M (rmL 4) (fun v w' => v = some (.long (wOf bs)) ∧ w' = w)) 4 [some (.ref u), some (.long (wTo (fun i => bs.getD i 0 &&& 255) 0 j)), none, some (.int (nI j))] [] w := by
    refine loopN bs.length (fun j hj ih => ?_)
    refine r_iload_n X dX13_wordOf_4 rfl rfl ?_
    refine r_aload_n X dX13_wordOf_5 rfl rfl ?_
    refine q_callO X dX13_wordOf_6 mX13_142 cwJ0_length_8abf5 (c_sLen GE u bs _ hZ hu) rfl hu.1 rfl (Nat.le_of_ble_eq_true rfl) ⟨Nat.le_of_ble_eq_true rfl, Nat.le_of_ble_eq_true rfl⟩ ⟨Nat.le_of_ble_eq_true rfl, Nat.le_of_ble_eq_true rfl⟩ ?_
    rintro _ _ ⟨rfl, rfl⟩
    refine r_icmpN_ge (tgt := 36) X dX13_wordOf_9 (by decide) (by omega) (by omega) (fun h9 => ?_) (fun h9 => ?_)
    · skip
      refine r_lload_n X dX13_wordOf_36 rfl rfl ?_
      refine r_lreturn X dX13_wordOf_37 (by first | omega | decide | (simp only [rmL, rmA]; omega)) (by first | omega | decide | (simp only [rmL, rmA]; omega)) ?_
      obtain rfl : j = bs.length := by omega
      exact ⟨rfl, rfl⟩
    · skip
      refine r_ldc2 X dX13_wordOf_12 qX13_147 ?_
      refine r_lload_n X dX13_wordOf_15 rfl rfl ?_
      refine r_lmul X dX13_wordOf_16 ?_
      refine r_aload_n X dX13_wordOf_17 rfl rfl ?_
      refine r_iload_n X dX13_wordOf_18 rfl rfl ?_
      refine q_callO X dX13_wordOf_19 mX13_149 cwJ0_charAt_5068e (c_charAt GE u j bs _ hZ hu (by omega)) rfl hu.1 rfl (Nat.le_of_ble_eq_true rfl) ⟨Nat.le_of_ble_eq_true rfl, Nat.le_of_ble_eq_true rfl⟩ ⟨Nat.le_of_ble_eq_true rfl, Nat.le_of_ble_eq_true rfl⟩ ?_
      rintro _ _ ⟨rfl, rfl⟩
      refine r_bipush (v := 97) X dX13_wordOf_22 (by decide) ?_
      refine r_isub X dX13_wordOf_24 ?_
      refine r_iconst (v := 1) X dX13_wordOf_25 (by decide) ?_
      refine r_iadd X dX13_wordOf_26 ?_
      refine r_i2l X dX13_wordOf_27 ?_
      refine r_ladd X dX13_wordOf_28 ?_
      refine r_lstore_n X dX13_wordOf_29 rfl (by decide) rfl ?_
      first | refine r_iincN X dX13_wordOf_30 rfl (by decide) rfl ?_ | refine r_iinc X dX13_wordOf_30 rfl rfl (by decide) rfl ?_
      refine r_goto (tgt := 4) X dX13_wordOf_33 (by decide) ?_
      exact r_loc (by simp [wTo]) (ih (by omega))
  refine r_lconst (v := 0) X dX13_wordOf_0 (by decide) ?_
  refine r_lstore_n X dX13_wordOf_1 rfl (by decide) rfl ?_
  refine r_iconst (v := nI 0) X dX13_wordOf_2 (by decide) ?_
  refine r_istore_n X dX13_wordOf_3 rfl (by decide) rfl ?_
  exact H 0 (by omega)
def mIsW (I : Mem) (J : Nat → Nat → Int64) (g : Nat) (bs : List Int32) : Bool := decide (I g 26 = 2) && decide (J g 30 = wOf bs)
set_option maxHeartbeats 2000000 in
set_option maxRecDepth 20000 in
/-- SledHouseModel.isWord -/
theorem c_mIsW {E : Ev} (GE : Glob E) (S : Nat → Option (Nat × Nat)) (I : Nat → Nat → Int32) (V : Nat → Nat → Option Nat) (J : Nat → Nat → Int64) (N : Nat) (g u : Nat) (bs : List Int32) (hZ : Strs E) (hs0 : S g = some (12, 0)) (hu : StrAt E u bs) : Ct E yX13_isWord cX13_isWord 2 (some .boolean) (rmL 5) [.ref g, .ref u] (S, I, V, J, N) (fun v w' => v = some (.int (bI (mIsW I J g bs))) ∧ w' = (S, I, V, J, N)) := by
  refine Ct.start GE (by decide) rfl (Nat.le_of_ble_eq_true rfl) (fun M X => ?_)
  have X : Cx E M RX13 cX13_isWord 2 (rmL 5) (some .boolean) "isWord" := X
  refine r_loc (L' := [some (.ref g), some (.ref u)]) rfl ?_
  refine r_aload_n X dX13_isWord_0 rfl rfl ?_
  refine r_getI X dX13_isWord_1 fX13_159 (by assumption) (by first | assumption | rfl) ?_
  refine r_iconst (v := 2) X dX13_isWord_4 (by decide) ?_
  refine r_icmp_ne (tgt := 24) X dX13_isWord_5 (by decide) (fun h5 => ?_) (fun h5 => ?_)
  · skip
    refine r_iconst (v := 0) X dX13_isWord_24 (by decide) ?_
    refine r_ireturn X dX13_isWord_25 rfl (by first | omega | decide | (simp only [rmL, rmA]; omega)) (by first | omega | decide | (simp only [rmL, rmA]; omega)) ?_
    refine ⟨?_, rfl⟩
    first
      | (have z1 := h5
         have z2 := (lg_cmp_eq _ _).mp h17
         rw [mIsW, decide_eq_true z1, decide_eq_true z2]; rfl; done)
      | (have z1 := h5
         have z2 : ¬ J g 30 = wOf bs := fun z => h17 ((lg_cmp_eq _ _).mpr z)
         rw [mIsW, decide_eq_true z1, decide_eq_false z2]; rfl; done)
      | (have z1 : ¬ I g 26 = 2 := h5
         rw [mIsW, decide_eq_false z1]; rfl; done)
  · skip
    refine r_aload_n X dX13_isWord_8 rfl rfl ?_
    refine r_getJ X dX13_isWord_9 fX13_168 (by assumption) (by first | assumption | rfl) ?_
    refine r_aload_n X dX13_isWord_12 rfl rfl ?_
    refine q_callS X dX13_isWord_13 mX13_178 cwX13_wordOf (c_wordOf GE u bs _ hZ.1 hu) rfl rfl (Nat.le_of_ble_eq_true rfl) ⟨Nat.le_of_ble_eq_true rfl, Nat.le_of_ble_eq_true rfl⟩ ⟨(by first | omega | decide | (simp only [rmL, rmA]; omega)), (by first | omega | decide | (simp only [rmL, rmA]; omega))⟩ ?_
    rintro _ _ ⟨rfl, rfl⟩
    refine r_lcmp X dX13_isWord_16 ?_
    refine r_if_ne (tgt := 24) X dX13_isWord_17 (by decide) (fun h17 => ?_) (fun h17 => ?_)
    · skip
      refine r_iconst (v := 0) X dX13_isWord_24 (by decide) ?_
      refine r_ireturn X dX13_isWord_25 rfl (by first | omega | decide | (simp only [rmL, rmA]; omega)) (by first | omega | decide | (simp only [rmL, rmA]; omega)) ?_
      refine ⟨?_, rfl⟩
      first
        | (have z1 := h5
           have z2 := (lg_cmp_eq _ _).mp h17
           rw [mIsW, decide_eq_true z1, decide_eq_true z2]; rfl; done)
        | (have z1 := h5
           have z2 : ¬ J g 30 = wOf bs := fun z => h17 ((lg_cmp_eq _ _).mpr z)
           rw [mIsW, decide_eq_true z1, decide_eq_false z2]; rfl; done)
        | (have z1 : ¬ I g 26 = 2 := h5
           rw [mIsW, decide_eq_false z1]; rfl; done)
    · skip
      refine r_iconst (v := 1) X dX13_isWord_20 (by decide) ?_
      refine r_goto (tgt := 25) X dX13_isWord_21 (by decide) ?_
      refine r_ireturn X dX13_isWord_25 rfl (by first | omega | decide | (simp only [rmL, rmA]; omega)) (by first | omega | decide | (simp only [rmL, rmA]; omega)) ?_
      refine ⟨?_, rfl⟩
      first
        | (have z1 := h5
           have z2 := (lg_cmp_eq _ _).mp h17
           rw [mIsW, decide_eq_true z1, decide_eq_true z2]; rfl; done)
        | (have z1 := h5
           have z2 : ¬ J g 30 = wOf bs := fun z => h17 ((lg_cmp_eq _ _).mpr z)
           rw [mIsW, decide_eq_true z1, decide_eq_false z2]; rfl; done)
        | (have z1 : ¬ I g 26 = 2 := h5
           rw [mIsW, decide_eq_false z1]; rfl; done)
def mIs (I : Mem) (g : Nat) (x : Int32) : Bool := decide (I g 26 = 4) && decide (I g 28 = x)
set_option maxHeartbeats 2000000 in
set_option maxRecDepth 20000 in
/-- SledHouseModel.is -/
theorem c_mIs {E : Ev} (GE : Glob E) (S : Nat → Option (Nat × Nat)) (I : Nat → Nat → Int32) (V : Nat → Nat → Option Nat) (J : Nat → Nat → Int64) (N : Nat) (g : Nat) (x : Int32) (hs0 : S g = some (12, 0)) : Ct E yX13_is cX13_is 2 (some .boolean) (rmL 0) [.ref g, .int x] (S, I, V, J, N) (fun v w' => v = some (.int (bI (mIs I g x))) ∧ w' = (S, I, V, J, N)) := by
  refine Ct.start GE (by decide) rfl (Nat.le_of_ble_eq_true rfl) (fun M X => ?_)
  have X : Cx E M RX13 cX13_is 2 (rmL 0) (some .boolean) "is" := X
  refine r_loc (L' := [some (.ref g), some (.int x)]) rfl ?_
  refine r_aload_n X dX13_is_0 rfl rfl ?_
  refine r_getI X dX13_is_1 fX13_159 (by assumption) (by first | assumption | rfl) ?_
  refine r_iconst (v := 4) X dX13_is_4 (by decide) ?_
  refine r_icmp_ne (tgt := 20) X dX13_is_5 (by decide) (fun h5 => ?_) (fun h5 => ?_)
  · skip
    refine r_iconst (v := 0) X dX13_is_20 (by decide) ?_
    refine r_ireturn X dX13_is_21 rfl (by first | omega | decide | (simp only [rmL, rmA]; omega)) (by first | omega | decide | (simp only [rmL, rmA]; omega)) ?_
    refine ⟨?_, rfl⟩
    first
      | (have z1 : I g 26 = 4 := h5
         have z2 : I g 28 = x := h13
         rw [mIs, decide_eq_true z1, decide_eq_true z2]; rfl; done)
      | (have z1 : I g 26 = 4 := h5
         have z2 : ¬ I g 28 = x := h13
         rw [mIs, decide_eq_true z1, decide_eq_false z2]; rfl; done)
      | (have z1 : ¬ I g 26 = 4 := h5
         rw [mIs, decide_eq_false z1]; rfl; done)
  · skip
    refine r_aload_n X dX13_is_8 rfl rfl ?_
    refine r_getI X dX13_is_9 fX13_162 (by assumption) (by first | assumption | rfl) ?_
    refine r_iload_n X dX13_is_12 rfl rfl ?_
    refine r_icmp_ne (tgt := 20) X dX13_is_13 (by decide) (fun h13 => ?_) (fun h13 => ?_)
    · skip
      refine r_iconst (v := 0) X dX13_is_20 (by decide) ?_
      refine r_ireturn X dX13_is_21 rfl (by first | omega | decide | (simp only [rmL, rmA]; omega)) (by first | omega | decide | (simp only [rmL, rmA]; omega)) ?_
      refine ⟨?_, rfl⟩
      first
        | (have z1 : I g 26 = 4 := h5
           have z2 : I g 28 = x := h13
           rw [mIs, decide_eq_true z1, decide_eq_true z2]; rfl; done)
        | (have z1 : I g 26 = 4 := h5
           have z2 : ¬ I g 28 = x := h13
           rw [mIs, decide_eq_true z1, decide_eq_false z2]; rfl; done)
        | (have z1 : ¬ I g 26 = 4 := h5
           rw [mIs, decide_eq_false z1]; rfl; done)
    · skip
      refine r_iconst (v := 1) X dX13_is_16 (by decide) ?_
      refine r_goto (tgt := 21) X dX13_is_17 (by decide) ?_
      refine r_ireturn X dX13_is_21 rfl (by first | omega | decide | (simp only [rmL, rmA]; omega)) (by first | omega | decide | (simp only [rmL, rmA]; omega)) ?_
      refine ⟨?_, rfl⟩
      first
        | (have z1 : I g 26 = 4 := h5
           have z2 : I g 28 = x := h13
           rw [mIs, decide_eq_true z1, decide_eq_true z2]; rfl; done)
        | (have z1 : I g 26 = 4 := h5
           have z2 : ¬ I g 28 = x := h13
           rw [mIs, decide_eq_true z1, decide_eq_false z2]; rfl; done)
        | (have z1 : ¬ I g 26 = 4 := h5
           rw [mIs, decide_eq_false z1]; rfl; done)
def mStp (I : Mem) (g : Nat) (x : Int32) : Mem := up2 (up2 I (g + 19) 6 x) (g + 19) 7 (I g 27)
set_option maxHeartbeats 2000000 in
set_option maxRecDepth 20000 in
/-- SledHouseModel.stop -/
theorem c_mStp {E : Ev} (GE : Glob E) (S : Nat → Option (Nat × Nat)) (I : Nat → Nat → Int32) (V : Nat → Nat → Option Nat) (J : Nat → Nat → Int64) (N : Nat) (g : Nat) (x : Int32) (hs0 : S g = some (12, 0)) (hR : MrSh S V g) : Ct E yX13_stop cX13_stop 2 (some (.object "SledHouseModel$Stop")) (rmL 0) [.ref g, .int x] (S, I, V, J, N) (fun v w' => v = some (.ref (g + 19)) ∧ w' = (S, mStp I g x, V, J, N)) := by
  refine Ct.start GE (by decide) rfl (Nat.le_of_ble_eq_true rfl) (fun M X => ?_)
  have X : Cx E M RX13 cX13_stop 2 (rmL 0) (some (.object "SledHouseModel$Stop")) "stop" := X
  refine r_loc (L' := [some (.ref g), some (.int x)]) rfl ?_
  obtain ⟨v21, v22, v32, v33, v34, v35, v36, v37, v39, s19, s20, s21, s22, s23, s24, s25, s26, s27⟩ := id hR
  refine r_aload_n X dX13_stop_0 rfl rfl ?_
  refine r_getR X dX13_stop_1 fX13_61 (by assumption) (by assumption) ?_
  refine r_iload_n X dX13_stop_4 rfl rfl ?_
  refine r_putI X dX13_stop_5 fX13_132 wX13_132 (by assumption) rfl rfl ?_
  refine r_aload_n X dX13_stop_8 rfl rfl ?_
  refine r_getR X dX13_stop_9 fX13_61 (by assumption) (by assumption) ?_
  refine r_aload_n X dX13_stop_12 rfl rfl ?_
  refine r_getI X dX13_stop_13 fX13_135 (by assumption) (up2_a (by omega)) ?_
  refine r_putI X dX13_stop_16 fX13_138 wX13_138 (by assumption) rfl rfl ?_
  refine r_aload_n X dX13_stop_19 rfl rfl ?_
  refine r_getR X dX13_stop_20 fX13_61 (by assumption) (by assumption) ?_
  refine r_areturn X dX13_stop_23 (Or.inl ⟨_, rfl⟩) (by first | omega | decide | (simp only [rmL, rmA]; omega)) (by first | omega | decide | (simp only [rmL, rmA]; omega)) ?_
  exact ⟨rfl, rfl⟩
set_option maxHeartbeats 2000000 in
set_option maxRecDepth 20000 in
/-- SledHouseModel.wrong -/
theorem c_mWrong {E : Ev} (GE : Glob E) (S : Nat → Option (Nat × Nat)) (I : Nat → Nat → Int32) (V : Nat → Nat → Option Nat) (J : Nat → Nat → Int64) (N : Nat) (g : Nat) (hs0 : S g = some (12, 0)) (hR : MrSh S V g) : Ct E yX13_wrong cX13_wrong 2 (some .int) (rmL 0) [.ref g, .ref (g + 19)] (S, I, V, J, N) (fun v w' => v = some (.int (-1)) ∧ w' = (S, up2 (up2 (up2 I g 3 (I (g + 19) 6)) g 1 4) g 2 (I (g + 19) 7), V, J, N)) := by
  refine Ct.start GE (by decide) rfl (Nat.le_of_ble_eq_true rfl) (fun M X => ?_)
  have X : Cx E M RX13 cX13_wrong 2 (rmL 0) (some .int) "wrong" := X
  refine r_loc (L' := [some (.ref g), some (.ref (g + 19))]) rfl ?_
  obtain ⟨v21, v22, v32, v33, v34, v35, v36, v37, v39, s19, s20, s21, s22, s23, s24, s25, s26, s27⟩ := id hR
  refine r_aload_n X dX13_wrong_0 rfl rfl ?_
  refine r_aload_n X dX13_wrong_1 rfl rfl ?_
  refine r_getI X dX13_wrong_2 fX13_132 (by assumption) (by first | assumption | rfl) ?_
  refine r_putI X dX13_wrong_5 fX13_224 wX13_224 (by assumption) rfl rfl ?_
  refine r_aload_n X dX13_wrong_8 rfl rfl ?_
  refine r_iconst (v := 4) X dX13_wrong_9 (by decide) ?_
  refine r_putI X dX13_wrong_10 fX13_7 wX13_7 (by assumption) rfl rfl ?_
  refine r_aload_n X dX13_wrong_13 rfl rfl ?_
  refine r_aload_n X dX13_wrong_14 rfl rfl ?_
  refine r_getI X dX13_wrong_15 fX13_138 (by assumption) ((up2_a (by omega)).trans (up2_a (by omega))) ?_
  refine r_putI X dX13_wrong_18 fX13_10 wX13_10 (by assumption) rfl rfl ?_
  refine r_iconst (v := -1) X dX13_wrong_21 (by decide) ?_
  refine r_ireturn X dX13_wrong_22 rfl (by first | omega | decide | (simp only [rmL, rmA]; omega)) (by first | omega | decide | (simp only [rmL, rmA]; omega)) ?_
  exact ⟨rfl, rfl⟩
set_option maxHeartbeats 2000000 in
set_option maxRecDepth 20000 in
/-- SledHouseModel.actHere -/
theorem c_mActH {E : Ev} (GE : Glob E) (S : Nat → Option (Nat × Nat)) (I : Nat → Nat → Int32) (V : Nat → Nat → Option Nat) (J : Nat → Nat → Int64) (N : Nat) (g : Nat) (hZ : Strs E) (hs0 : S g = some (12, 0)) : Ct E yX13_actHere cX13_actHere 1 (some .int) (rmL 6) [.ref g] (S, I, V, J, N) (fun v w' => v = some (.int (wAct (mIsW I J g))) ∧ w' = (S, I, V, J, N)) := by
  refine Ct.start GE (by decide) rfl (Nat.le_of_ble_eq_true rfl) (fun M X => ?_)
  have X : Cx E M RX13 cX13_actHere 1 (rmL 6) (some .int) "actHere" := X
  refine r_loc (L' := [some (.ref g)]) rfl ?_
  refine r_aload_n X dX13_actHere_0 rfl rfl ?_
  refine r_ldcS X dX13_actHere_1 (sX13_192 hZ) (fun u1 hu1 => ?_)
  refine q_callV X dX13_actHere_3 mX13_182 cwX13_isWord (c_mIsW GE S I V J N g _ kw_go hZ hs0 (by assumption)) rfl (by assumption) rfl rfl rfl (Nat.le_of_ble_eq_true rfl) ⟨Nat.le_of_ble_eq_true rfl, Nat.le_of_ble_eq_true rfl⟩ ⟨(by first | omega | decide | (simp only [rmL, rmA]; omega)), (by first | omega | decide | (simp only [rmL, rmA]; omega))⟩ ?_
  rintro _ _ ⟨rfl, rfl⟩
  refine r_if_eq (tgt := 13) X dX13_actHere_6 (by decide) (fun h6 => ?_) (fun h6 => ?_)
  · skip
    refine r_aload_n X dX13_actHere_13 rfl rfl ?_
    refine r_ldcS X dX13_actHere_14 (sX13_194 hZ) (fun u14 hu14 => ?_)
    refine q_callV X dX13_actHere_16 mX13_182 cwX13_isWord (c_mIsW GE S I V J N g _ kw_stay hZ hs0 (by assumption)) rfl (by assumption) rfl rfl rfl (Nat.le_of_ble_eq_true rfl) ⟨Nat.le_of_ble_eq_true rfl, Nat.le_of_ble_eq_true rfl⟩ ⟨(by first | omega | decide | (simp only [rmL, rmA]; omega)), (by first | omega | decide | (simp only [rmL, rmA]; omega))⟩ ?_
    rintro _ _ ⟨rfl, rfl⟩
    refine r_if_eq (tgt := 26) X dX13_actHere_19 (by decide) (fun h19 => ?_) (fun h19 => ?_)
    · skip
      refine r_aload_n X dX13_actHere_26 rfl rfl ?_
      refine r_ldcS X dX13_actHere_27 (sX13_196 hZ) (fun u27 hu27 => ?_)
      refine q_callV X dX13_actHere_29 mX13_182 cwX13_isWord (c_mIsW GE S I V J N g _ kw_feed hZ hs0 (by assumption)) rfl (by assumption) rfl rfl rfl (Nat.le_of_ble_eq_true rfl) ⟨Nat.le_of_ble_eq_true rfl, Nat.le_of_ble_eq_true rfl⟩ ⟨(by first | omega | decide | (simp only [rmL, rmA]; omega)), (by first | omega | decide | (simp only [rmL, rmA]; omega))⟩ ?_
      rintro _ _ ⟨rfl, rfl⟩
      refine r_if_eq (tgt := 39) X dX13_actHere_32 (by decide) (fun h32 => ?_) (fun h32 => ?_)
      · skip
        refine r_aload_n X dX13_actHere_39 rfl rfl ?_
        refine r_ldcS X dX13_actHere_40 (sX13_198 hZ) (fun u40 hu40 => ?_)
        refine q_callV X dX13_actHere_42 mX13_182 cwX13_isWord (c_mIsW GE S I V J N g _ kw_leave hZ hs0 (by assumption)) rfl (by assumption) rfl rfl rfl (Nat.le_of_ble_eq_true rfl) ⟨Nat.le_of_ble_eq_true rfl, Nat.le_of_ble_eq_true rfl⟩ ⟨(by first | omega | decide | (simp only [rmL, rmA]; omega)), (by first | omega | decide | (simp only [rmL, rmA]; omega))⟩ ?_
        rintro _ _ ⟨rfl, rfl⟩
        refine r_if_eq (tgt := 52) X dX13_actHere_45 (by decide) (fun h45 => ?_) (fun h45 => ?_)
        · skip
          refine r_iconst (v := -1) X dX13_actHere_52 (by decide) ?_
          refine r_ireturn X dX13_actHere_53 rfl (by first | omega | decide | (simp only [rmL, rmA]; omega)) (by first | omega | decide | (simp only [rmL, rmA]; omega)) ?_
          refine ⟨?_, rfl⟩
          first
            | (have z1 := bI_1 h6
               rw [wAct, if_pos z1]; done)
            | (have z1 := bI_0 h6
               have z2 := bI_1 h19
               rw [wAct, z1, if_neg (by decide), if_pos z2]; done)
            | (have z1 := bI_0 h6
               have z2 := bI_0 h19
               have z3 := bI_1 h32
               rw [wAct, z1, if_neg (by decide), z2, if_neg (by decide), if_pos z3]; done)
            | (have z1 := bI_0 h6
               have z2 := bI_0 h19
               have z3 := bI_0 h32
               have z4 := bI_1 h45
               rw [wAct, z1, if_neg (by decide), z2, if_neg (by decide), z3, if_neg (by decide), if_pos z4]; done)
            | (have z1 := bI_0 h6
               have z2 := bI_0 h19
               have z3 := bI_0 h32
               have z4 := bI_0 h45
               rw [wAct, z1, if_neg (by decide), z2, if_neg (by decide), z3, if_neg (by decide), z4, if_neg (by decide)]; done)
        · skip
          refine r_iconst (v := 3) X dX13_actHere_48 (by decide) ?_
          refine r_goto (tgt := 53) X dX13_actHere_49 (by decide) ?_
          refine r_ireturn X dX13_actHere_53 rfl (by first | omega | decide | (simp only [rmL, rmA]; omega)) (by first | omega | decide | (simp only [rmL, rmA]; omega)) ?_
          refine ⟨?_, rfl⟩
          first
            | (have z1 := bI_1 h6
               rw [wAct, if_pos z1]; done)
            | (have z1 := bI_0 h6
               have z2 := bI_1 h19
               rw [wAct, z1, if_neg (by decide), if_pos z2]; done)
            | (have z1 := bI_0 h6
               have z2 := bI_0 h19
               have z3 := bI_1 h32
               rw [wAct, z1, if_neg (by decide), z2, if_neg (by decide), if_pos z3]; done)
            | (have z1 := bI_0 h6
               have z2 := bI_0 h19
               have z3 := bI_0 h32
               have z4 := bI_1 h45
               rw [wAct, z1, if_neg (by decide), z2, if_neg (by decide), z3, if_neg (by decide), if_pos z4]; done)
            | (have z1 := bI_0 h6
               have z2 := bI_0 h19
               have z3 := bI_0 h32
               have z4 := bI_0 h45
               rw [wAct, z1, if_neg (by decide), z2, if_neg (by decide), z3, if_neg (by decide), z4, if_neg (by decide)]; done)
      · skip
        refine r_iconst (v := 2) X dX13_actHere_35 (by decide) ?_
        refine r_goto (tgt := 53) X dX13_actHere_36 (by decide) ?_
        refine r_ireturn X dX13_actHere_53 rfl (by first | omega | decide | (simp only [rmL, rmA]; omega)) (by first | omega | decide | (simp only [rmL, rmA]; omega)) ?_
        refine ⟨?_, rfl⟩
        first
          | (have z1 := bI_1 h6
             rw [wAct, if_pos z1]; done)
          | (have z1 := bI_0 h6
             have z2 := bI_1 h19
             rw [wAct, z1, if_neg (by decide), if_pos z2]; done)
          | (have z1 := bI_0 h6
             have z2 := bI_0 h19
             have z3 := bI_1 h32
             rw [wAct, z1, if_neg (by decide), z2, if_neg (by decide), if_pos z3]; done)
          | (have z1 := bI_0 h6
             have z2 := bI_0 h19
             have z3 := bI_0 h32
             have z4 := bI_1 h45
             rw [wAct, z1, if_neg (by decide), z2, if_neg (by decide), z3, if_neg (by decide), if_pos z4]; done)
          | (have z1 := bI_0 h6
             have z2 := bI_0 h19
             have z3 := bI_0 h32
             have z4 := bI_0 h45
             rw [wAct, z1, if_neg (by decide), z2, if_neg (by decide), z3, if_neg (by decide), z4, if_neg (by decide)]; done)
    · skip
      refine r_iconst (v := 1) X dX13_actHere_22 (by decide) ?_
      refine r_goto (tgt := 53) X dX13_actHere_23 (by decide) ?_
      refine r_ireturn X dX13_actHere_53 rfl (by first | omega | decide | (simp only [rmL, rmA]; omega)) (by first | omega | decide | (simp only [rmL, rmA]; omega)) ?_
      refine ⟨?_, rfl⟩
      first
        | (have z1 := bI_1 h6
           rw [wAct, if_pos z1]; done)
        | (have z1 := bI_0 h6
           have z2 := bI_1 h19
           rw [wAct, z1, if_neg (by decide), if_pos z2]; done)
        | (have z1 := bI_0 h6
           have z2 := bI_0 h19
           have z3 := bI_1 h32
           rw [wAct, z1, if_neg (by decide), z2, if_neg (by decide), if_pos z3]; done)
        | (have z1 := bI_0 h6
           have z2 := bI_0 h19
           have z3 := bI_0 h32
           have z4 := bI_1 h45
           rw [wAct, z1, if_neg (by decide), z2, if_neg (by decide), z3, if_neg (by decide), if_pos z4]; done)
        | (have z1 := bI_0 h6
           have z2 := bI_0 h19
           have z3 := bI_0 h32
           have z4 := bI_0 h45
           rw [wAct, z1, if_neg (by decide), z2, if_neg (by decide), z3, if_neg (by decide), z4, if_neg (by decide)]; done)
  · skip
    refine r_iconst (v := 0) X dX13_actHere_9 (by decide) ?_
    refine r_goto (tgt := 53) X dX13_actHere_10 (by decide) ?_
    refine r_ireturn X dX13_actHere_53 rfl (by first | omega | decide | (simp only [rmL, rmA]; omega)) (by first | omega | decide | (simp only [rmL, rmA]; omega)) ?_
    refine ⟨?_, rfl⟩
    first
      | (have z1 := bI_1 h6
         rw [wAct, if_pos z1]; done)
      | (have z1 := bI_0 h6
         have z2 := bI_1 h19
         rw [wAct, z1, if_neg (by decide), if_pos z2]; done)
      | (have z1 := bI_0 h6
         have z2 := bI_0 h19
         have z3 := bI_1 h32
         rw [wAct, z1, if_neg (by decide), z2, if_neg (by decide), if_pos z3]; done)
      | (have z1 := bI_0 h6
         have z2 := bI_0 h19
         have z3 := bI_0 h32
         have z4 := bI_1 h45
         rw [wAct, z1, if_neg (by decide), z2, if_neg (by decide), z3, if_neg (by decide), if_pos z4]; done)
      | (have z1 := bI_0 h6
         have z2 := bI_0 h19
         have z3 := bI_0 h32
         have z4 := bI_0 h45
         rw [wAct, z1, if_neg (by decide), z2, if_neg (by decide), z3, if_neg (by decide), z4, if_neg (by decide)]; done)
