/-! ===== the constructors of Stop and of what it stands on ===== -/
def RTh : String := "java/lang/Throwable"
def REx : String := "java/lang/Exception"
def RRt : String := "java/lang/RuntimeException"
def ctD : String := "(Ljava/lang/String;Ljava/lang/Throwable;ZZ)V"
def yTh : MethodName := ⟨RTh, "<init>", ctD⟩
def yEx : MethodName := ⟨REx, "<init>", ctD⟩
def yRt : MethodName := ⟨RRt, "<init>", ctD⟩
abbrev cTh : ByteArray := prog_25_method_5_code
abbrev cEx : ByteArray := prog_17_method_5_code
abbrev cRt : ByteArray := prog_20_method_5_code
theorem dTh_0 : decode cTh 0 = .ok (.aload_n 0, 1) := by decide +kernel
theorem dTh_1 : decode cTh 1 = .ok (.invokespecial 1, 3) := by decide +kernel
theorem dTh_4 : decode cTh 4 = .ok (.aload_n 0, 1) := by decide +kernel
theorem dTh_5 : decode cTh 5 = .ok (.aload_n 0, 1) := by decide +kernel
theorem dTh_6 : decode cTh 6 = .ok (.putfield 7, 3) := by decide +kernel
theorem dTh_9 : decode cTh 9 = .ok (.aload_n 0, 1) := by decide +kernel
theorem dTh_10 : decode cTh 10 = .ok (.getstatic 13, 3) := by decide +kernel
theorem dTh_13 : decode cTh 13 = .ok (.putfield 17, 3) := by decide +kernel
theorem dTh_16 : decode cTh 16 = .ok (.aload_n 0, 1) := by decide +kernel
theorem dTh_17 : decode cTh 17 = .ok (.getstatic 20, 3) := by decide +kernel
theorem dTh_20 : decode cTh 20 = .ok (.putfield 24, 3) := by decide +kernel
theorem dTh_23 : decode cTh 23 = .ok (.iload 4, 2) := by decide +kernel
theorem dTh_25 : decode cTh 25 = .ok (.ifCond .eq 11, 3) := by decide +kernel
theorem dTh_36 : decode cTh 36 = .ok (.aload_n 0, 1) := by decide +kernel
theorem dTh_37 : decode cTh 37 = .ok (.aconst_null, 1) := by decide +kernel
theorem dTh_38 : decode cTh 38 = .ok (.putfield 17, 3) := by decide +kernel
theorem dTh_41 : decode cTh 41 = .ok (.aload_n 0, 1) := by decide +kernel
theorem dTh_42 : decode cTh 42 = .ok (.aload_n 1, 1) := by decide +kernel
theorem dTh_43 : decode cTh 43 = .ok (.putfield 31, 3) := by decide +kernel
theorem dTh_46 : decode cTh 46 = .ok (.aload_n 0, 1) := by decide +kernel
theorem dTh_47 : decode cTh 47 = .ok (.aload_n 2, 1) := by decide +kernel
theorem dTh_48 : decode cTh 48 = .ok (.putfield 7, 3) := by decide +kernel
theorem dTh_51 : decode cTh 51 = .ok (.iload_n 3, 1) := by decide +kernel
theorem dTh_52 : decode cTh 52 = .ok (.ifCond .ne 8, 3) := by decide +kernel
theorem dTh_55 : decode cTh 55 = .ok (.aload_n 0, 1) := by decide +kernel
theorem dTh_56 : decode cTh 56 = .ok (.aconst_null, 1) := by decide +kernel
theorem dTh_57 : decode cTh 57 = .ok (.putfield 24, 3) := by decide +kernel
theorem dTh_60 : decode cTh 60 = .ok (.return_, 1) := by decide +kernel
theorem dEx_0 : decode cEx 0 = .ok (.aload_n 0, 1) := by decide +kernel
theorem dRt_0 : decode cRt 0 = .ok (.aload_n 0, 1) := by decide +kernel
theorem dEx_1 : decode cEx 1 = .ok (.aload_n 1, 1) := by decide +kernel
theorem dRt_1 : decode cRt 1 = .ok (.aload_n 1, 1) := by decide +kernel
theorem dEx_2 : decode cEx 2 = .ok (.aload_n 2, 1) := by decide +kernel
theorem dRt_2 : decode cRt 2 = .ok (.aload_n 2, 1) := by decide +kernel
theorem dEx_3 : decode cEx 3 = .ok (.iload_n 3, 1) := by decide +kernel
theorem dRt_3 : decode cRt 3 = .ok (.iload_n 3, 1) := by decide +kernel
theorem dEx_4 : decode cEx 4 = .ok (.iload 4, 2) := by decide +kernel
theorem dRt_4 : decode cRt 4 = .ok (.iload 4, 2) := by decide +kernel
theorem dEx_6 : decode cEx 6 = .ok (.invokespecial 16, 3) := by decide +kernel
theorem dRt_6 : decode cRt 6 = .ok (.invokespecial 16, 3) := by decide +kernel
theorem dEx_9 : decode cEx 9 = .ok (.return_, 1) := by decide +kernel
theorem dRt_9 : decode cRt 9 = .ok (.return_, 1) := by decide +kernel
theorem cwTh : CWd yTh cTh 5 none 4 := ⟨(List.mem_append_right _ (List.mem_of_getElem? (i := 1095) (by decide +kernel))), (List.mem_append_right _ (List.mem_of_getElem? (i := 14) (by decide +kernel))), ⟨by decide, by decide⟩, by decide +kernel⟩
theorem cwEx : CWd yEx cEx 5 none 4 := ⟨(List.mem_append_right _ (List.mem_of_getElem? (i := 1092) (by decide +kernel))), (List.mem_append_right _ (List.mem_of_getElem? (i := 15) (by decide +kernel))), ⟨by decide, by decide⟩, by decide +kernel⟩
theorem cwRt : CWd yRt cRt 5 none 4 := ⟨(List.mem_append_right _ (List.mem_of_getElem? (i := 1089) (by decide +kernel))), (List.mem_append_right _ (List.mem_of_getElem? (i := 16) (by decide +kernel))), ⟨by decide, by decide⟩, by decide +kernel⟩
theorem iX11_1 : ILk RX11 1 yRt := ⟨Or.inl (List.mem_append_right _ (List.mem_of_getElem? (i := 1087) (by decide +kernel))), (List.mem_append_right _ (List.mem_of_getElem? (i := 1088) (by decide +kernel))), rfl⟩
theorem iRt_16 : ILk RRt 16 yEx := ⟨Or.inl (List.mem_append_right _ (List.mem_of_getElem? (i := 1090) (by decide +kernel))), (List.mem_append_right _ (List.mem_of_getElem? (i := 1091) (by decide +kernel))), rfl⟩
theorem iEx_16 : ILk REx 16 yTh := ⟨Or.inl (List.mem_append_right _ (List.mem_of_getElem? (i := 1093) (by decide +kernel))), (List.mem_append_right _ (List.mem_of_getElem? (i := 1094) (by decide +kernel))), rfl⟩
theorem oTh_1 : Cond.methodLink RTh 1 objectInit ∈ lw_tbl := (List.mem_append_right _ (List.mem_of_getElem? (i := 1070) (by decide +kernel)))
theorem fTh_7 : FLk 1 RTh 7 10 0 := ⟨⟨_, rfl, by decide, Or.inl (List.mem_append_right _ (List.mem_of_getElem? (i := 1100) (by decide +kernel)))⟩, rfl⟩
theorem wTh_7 {nm : String} : FW RTh nm 7 10 0 := ⟨_, rfl, Or.inl rfl⟩
theorem fTh_17 : FLk 1 RTh 17 10 1 := ⟨⟨_, rfl, by decide, Or.inl (List.mem_append_right _ (List.mem_of_getElem? (i := 1101) (by decide +kernel)))⟩, rfl⟩
theorem wTh_17 {nm : String} : FW RTh nm 17 10 1 := ⟨_, rfl, Or.inl rfl⟩
theorem fTh_24 : FLk 1 RTh 24 10 2 := ⟨⟨_, rfl, by decide, Or.inl (List.mem_append_right _ (List.mem_of_getElem? (i := 1102) (by decide +kernel)))⟩, rfl⟩
theorem wTh_24 {nm : String} : FW RTh nm 24 10 2 := ⟨_, rfl, Or.inl rfl⟩
theorem fTh_31 : FLk 1 RTh 31 10 3 := ⟨⟨_, rfl, by decide, Or.inl (List.mem_append_right _ (List.mem_of_getElem? (i := 1099) (by decide +kernel)))⟩, rfl⟩
theorem wTh_31 {nm : String} : FW RTh nm 31 10 3 := ⟨_, rfl, Or.inl rfl⟩
theorem zTh_13 : Cond.fieldLink RTh 13 "java/lang/Throwable" "UNASSIGNED_STACK" "[Ljava/lang/StackTraceElement;" ∈ lw_tbl := (List.mem_append_right _ (List.mem_of_getElem? (i := 1071) (by decide +kernel)))
theorem zTh_20 : Cond.fieldLink RTh 20 "java/lang/Throwable" "SUPPRESSED_SENTINEL" "Ljava/util/List;" ∈ lw_tbl := (List.mem_append_right _ (List.mem_of_getElem? (i := 1073) (by decide +kernel)))
/-- the two statics of Throwable hold references -/
def Sta2 (E : Ev) : Prop := va_Zq "java/lang/Throwable" "UNASSIGNED_STACK" "[Ljava/lang/StackTraceElement;" (oldA E) E.1 E.1.heap ∧ va_Zq "java/lang/Throwable" "SUPPRESSED_SENTINEL" "Ljava/util/List;" (oldA E) E.1 E.1.heap
section TN
variable {E : Ev} {M : Mc} {own : String} {cc : ByteArray} {nL : Nat} {rm : Room} {ret : Option FieldType} {nm : String} {cells slots : Nat} {Q : State → Prop} {pc : Nat} {L : List (Option Value)} {st : List Value} {w : Wd} {idx : Nat}
theorem r_aload_nN {k : Fin 4} {i : Nat} (X : Cx E M own cc nL rm ret nm) (hd : decode cc pc = .ok (.aload_n k, 1)) (hi : (k : Nat) = i) (hx : L[i]? = some (some .null)) (kk : G E M cells slots Q (pc + 1) L (.null :: st) w) : G E M cells slots Q pc L st w := fun H locs ls hR hl hls => lv_aload_nN X.hx X.hb hd hi (hls.2.2 _ _ hx) (kk H locs ls hR hl hls)
theorem r_getQ {o n d : String} (X : Cx E M own cc nL rm ret nm) (hd : decode cc pc = .ok (.getstatic idx, 3)) (hZ : va_Zq o n d (oldA E) E.1 E.1.heap) (hlk : Cond.fieldLink own idx o n d ∈ lw_tbl) (kk : ∀ q : Option Nat, G E M cells slots Q (pc + 3) L (va_rf q :: st) w) : G E M cells slots Q pc L st w := by
  rcases hZ with h | ⟨t, h⟩
  · exact r_getZ X hd h hlk (kk none)
  · exact r_getZ X hd h hlk (kk (some t))
end TN
theorem vth_same {V : Nat → Nat → Option Nat} {b : Nat} (hV : ∀ k, V b k = none) (o1 o2 : Option Nat) : up2 (up2 (up2 (up2 (up2 (up2 (up2 V b 0 (some b)) b 1 o1) b 2 o2) b 1 none) b 3 none) b 0 none) b 2 none = V := by
  funext x k
  simp only [up2]
  by_cases hx : x = b
  · subst hx
    by_cases h0 : k = 0
    · simp [h0, hV]
    · by_cases h1 : k = 1
      · simp [h1, hV]
      · by_cases h2 : k = 2
        · simp [h2, hV]
        · by_cases h3 : k = 3
          · simp [h3, hV]
          · simp [h0, h1, h2, h3]
  · simp [hx]
set_option maxHeartbeats 2000000 in
theorem c_th {E : Ev} (GE : Glob E) (S : Nat → Option (Nat × Nat)) (I : Nat → Nat → Int32) (V : Nat → Nat → Option Nat) (J : Nat → Nat → Int64) (N b : Nat) (hz : Sta2 E) (hs0 : S b = some (10, 0)) (hV : ∀ k, V b k = none) : Ct E yTh cTh 5 none (rmL 1) [.ref b, .null, .null, .int 0, .int 0] (S, I, V, J, N) (fun v w' => v = none ∧ w' = (S, I, V, J, N)) := by
  refine Ct.start GE (by decide) rfl (Nat.le_of_ble_eq_true rfl) (fun M X => ?_)
  have X : Cx E M RTh cTh 5 (rmL 1) none "<init>" := X
  refine r_loc (L' := [some (.ref b), some .null, some .null, some (.int 0), some (.int 0)]) rfl ?_
  refine r_aload_n X dTh_0 rfl rfl ?_
  refine r_objInit X dTh_1 oTh_1 (Nat.le_of_ble_eq_true rfl) (Nat.le_of_ble_eq_true rfl) ?_
  refine r_aload_n X dTh_4 rfl rfl ?_
  refine r_aload_n X dTh_5 rfl rfl ?_
  refine r_putR (o := some b) X dTh_6 fTh_7 wTh_7 hs0 rfl rfl ?_
  refine r_aload_n X dTh_9 rfl rfl ?_
  refine r_getQ X dTh_10 hz.1 zTh_13 (fun o1 => ?_)
  refine r_putR (o := o1) X dTh_13 fTh_17 wTh_17 hs0 (by cases o1 <;> rfl) (by cases o1 <;> rfl) ?_
  refine r_aload_n X dTh_16 rfl rfl ?_
  refine r_getQ X dTh_17 hz.2 zTh_20 (fun o2 => ?_)
  refine r_putR (o := o2) X dTh_20 fTh_24 wTh_24 hs0 (by cases o2 <;> rfl) (by cases o2 <;> rfl) ?_
  refine r_iload X dTh_23 rfl ?_
  refine r_if_eq (tgt := 36) X dTh_25 (by decide) (fun h25 => ?_) (fun h25 => absurd rfl h25)
  refine r_aload_n X dTh_36 rfl rfl ?_
  refine r_null X dTh_37 ?_
  refine r_putR (o := none) X dTh_38 fTh_17 wTh_17 hs0 rfl rfl ?_
  refine r_aload_n X dTh_41 rfl rfl ?_
  refine r_aload_nN X dTh_42 rfl rfl ?_
  refine r_putR (o := none) X dTh_43 fTh_31 wTh_31 hs0 rfl rfl ?_
  refine r_aload_n X dTh_46 rfl rfl ?_
  refine r_aload_nN X dTh_47 rfl rfl ?_
  refine r_putR (o := none) X dTh_48 fTh_7 wTh_7 hs0 rfl rfl ?_
  refine r_iload_n X dTh_51 rfl rfl ?_
  refine r_if_ne (tgt := 60) X dTh_52 (by decide) (fun h52 => absurd rfl h52) (fun h52 => ?_)
  refine r_aload_n X dTh_55 rfl rfl ?_
  refine r_null X dTh_56 ?_
  refine r_putR (o := none) X dTh_57 fTh_24 wTh_24 hs0 rfl rfl ?_
  refine r_return X dTh_60 (by decide) (by decide) ?_
  exact ⟨rfl, by rw [vth_same hV]⟩

set_option maxHeartbeats 2000000 in
theorem c_ex {E : Ev} (GE : Glob E) (S : Nat → Option (Nat × Nat)) (I : Nat → Nat → Int32) (V : Nat → Nat → Option Nat) (J : Nat → Nat → Int64) (N b : Nat) (hz : Sta2 E) (hs0 : S b = some (10, 0)) (hV : ∀ k, V b k = none) : Ct E yEx cEx 5 none (rmL 2) [.ref b, .null, .null, .int 0, .int 0] (S, I, V, J, N) (fun v w' => v = none ∧ w' = (S, I, V, J, N)) := by
  refine Ct.start GE (by decide) rfl (Nat.le_of_ble_eq_true rfl) (fun M X => ?_)
  have X : Cx E M REx cEx 5 (rmL 2) none "<init>" := X
  refine r_loc (L' := [some (.ref b), some .null, some .null, some (.int 0), some (.int 0)]) rfl ?_
  refine r_aload_n X dEx_0 rfl rfl ?_
  refine r_aload_nN X dEx_1 rfl rfl ?_
  refine r_aload_nN X dEx_2 rfl rfl ?_
  refine r_iload_n X dEx_3 rfl rfl ?_
  refine r_iload X dEx_4 rfl ?_
  refine q_callI X dEx_6 iEx_16 cwTh (c_th GE S I V J N b hz hs0 hV) rfl rfl (Nat.le_of_ble_eq_true rfl) ⟨Nat.le_of_ble_eq_true rfl, Nat.le_of_ble_eq_true rfl⟩ ⟨(by decide), (by decide)⟩ ?_
  rintro _ _ ⟨rfl, rfl⟩
  refine r_return X dEx_9 (by decide) (by decide) ?_
  exact ⟨rfl, rfl⟩
set_option maxHeartbeats 2000000 in
theorem c_rt {E : Ev} (GE : Glob E) (S : Nat → Option (Nat × Nat)) (I : Nat → Nat → Int32) (V : Nat → Nat → Option Nat) (J : Nat → Nat → Int64) (N b : Nat) (hz : Sta2 E) (hs0 : S b = some (10, 0)) (hV : ∀ k, V b k = none) : Ct E yRt cRt 5 none (rmL 3) [.ref b, .null, .null, .int 0, .int 0] (S, I, V, J, N) (fun v w' => v = none ∧ w' = (S, I, V, J, N)) := by
  refine Ct.start GE (by decide) rfl (Nat.le_of_ble_eq_true rfl) (fun M X => ?_)
  have X : Cx E M RRt cRt 5 (rmL 3) none "<init>" := X
  refine r_loc (L' := [some (.ref b), some .null, some .null, some (.int 0), some (.int 0)]) rfl ?_
  refine r_aload_n X dRt_0 rfl rfl ?_
  refine r_aload_nN X dRt_1 rfl rfl ?_
  refine r_aload_nN X dRt_2 rfl rfl ?_
  refine r_iload_n X dRt_3 rfl rfl ?_
  refine r_iload X dRt_4 rfl ?_
  refine q_callI X dRt_6 iRt_16 cwEx (c_ex GE S I V J N b hz hs0 hV) rfl rfl (Nat.le_of_ble_eq_true rfl) ⟨Nat.le_of_ble_eq_true rfl, Nat.le_of_ble_eq_true rfl⟩ ⟨(by decide), (by decide)⟩ ?_
  rintro _ _ ⟨rfl, rfl⟩
  refine r_return X dRt_9 (by decide) (by decide) ?_
  exact ⟨rfl, rfl⟩
set_option maxHeartbeats 2000000 in
set_option maxRecDepth 20000 in
/-- SledHouseModel$Stop.<init> -/
theorem c_stop0 {E : Ev} (GE : Glob E) (S : Nat → Option (Nat × Nat)) (I : Nat → Nat → Int32) (V : Nat → Nat → Option Nat) (J : Nat → Nat → Int64) (N : Nat) (b : Nat) (hz : Sta2 E) (hs0 : S b = some (10, 0)) (hV : ∀ k, V b k = none) : Ct E yX11_init cX11_init 1 none (rmL 4) [.ref b] (S, I, V, J, N) (fun v w' => v = none ∧ w' = (S, I, V, J, N)) := by
  refine Ct.start GE (by decide) rfl (Nat.le_of_ble_eq_true rfl) (fun M X => ?_)
  have X : Cx E M RX11 cX11_init 1 (rmL 4) none "<init>" := X
  refine r_loc (L' := [some (.ref b)]) rfl ?_
  refine r_aload_n X dX11_init_0 rfl rfl ?_
  refine r_null X dX11_init_1 ?_
  refine r_null X dX11_init_2 ?_
  refine r_iconst (v := 0) X dX11_init_3 (by decide) ?_
  refine r_iconst (v := 0) X dX11_init_4 (by decide) ?_
  refine q_callI X dX11_init_5 iX11_1 cwRt (c_rt GE S I V J N b hz hs0 hV) rfl rfl (Nat.le_of_ble_eq_true rfl) ⟨Nat.le_of_ble_eq_true rfl, Nat.le_of_ble_eq_true rfl⟩ ⟨(by decide), (by decide)⟩ ?_
  rintro _ _ ⟨rfl, rfl⟩
  refine r_return X dX11_init_8 (by first | omega | decide | (simp only [rmL, rmA]; omega)) (by first | omega | decide | (simp only [rmL, rmA]; omega)) ?_
  exact ⟨rfl, rfl⟩
