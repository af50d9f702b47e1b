/-! ===== Strings that stood before: their fields, their bytes ===== -/
abbrev oldA (E : Ev) : Nat → Prop := fun a => eB E ≤ a
/-- the String at q, a text of one byte a letter -/
def StrAt (E : Ev) (q : Nat) (bs : List Int32) : Prop := va_O "java/lang/String" q (oldA E) E.1 E.1.heap ∧ va_OF "java/lang/String" "coder" "B" (.int 0) q (oldA E) E.1 E.1.heap ∧ bs.length < 1000 ∧ ∃ vq, va_OF "java/lang/String" "value" "[B" (.ref vq) q (oldA E) E.1 E.1.heap ∧ va_T .byte vq bs.length (fun j => .int (bs.getD j 0)) (oldA E) E.1 E.1.heap
def Stat (E : Ev) : Prop := va_Z "java/lang/String" "COMPACT_STRINGS" "Z" (.int 1) (oldA E) E.1 E.1.heap ∧ va_Zq "jdk/internal/util/Preconditions" "SIOOBE_FORMATTER" "Ljava/util/function/BiFunction;" (oldA E) E.1 E.1.heap
def StrK (E : Ev) (own : String) (idx : Nat) (tx : String) (bs : List Int32) : Prop := ∃ q, vk_R own idx tx q E.1 ∧ StrAt E q bs
section ST
variable {E : Ev} {M : Mc} {own : String} {cc : ByteArray} {nL : Nat} {rm : Room} {ret : Option FieldType} {nm : String} {cells slots : Nat} {Q : State → Prop} {pc : Nat} {L : List (Option Value)} {st st0 : List Value} {w : Wd} {idx : Nat} {H : Heap}
theorem Rw.old (hR : Rw E w H) {a : Nat} {cell : Cell} (h : E.1.heap[a]? = some cell) (ha : ¬ oldA E a) : H[a]? = some cell := by
  rw [hR.2.2.1 a (Nat.not_le.mp ha)]
  exact h
theorem r_ldcS {tx : String} {bs : List Int32} (X : Cx E M own cc nL rm ret nm) (hd : decode cc pc = .ok (.ldc idx, 2)) (hk : StrK E own idx tx bs) (kk : ∀ q, StrAt E q bs → G E M cells slots Q (pc + 2) L (.ref q :: st) w) : G E M cells slots Q pc L st w := by
  obtain ⟨q, h1, h2⟩ := hk
  intro H locs ls hR hl hls
  exact va_ldcS X.hx X.hb X.hown (h1.warm X.warm) hd (kk q h2 H locs ls hR hl hls)
theorem r_ldcwS {tx : String} {bs : List Int32} (X : Cx E M own cc nL rm ret nm) (hd : decode cc pc = .ok (.ldc_w idx, 3)) (hk : StrK E own idx tx bs) (kk : ∀ q, StrAt E q bs → G E M cells slots Q (pc + 3) L (.ref q :: st) w) : G E M cells slots Q pc L st w := by
  obtain ⟨q, h1, h2⟩ := hk
  intro H locs ls hR hl hls
  have h3 := h1.warm X.warm
  intro T hT Z
  obtain ⟨t, a1, b1⟩ := kk q h2 H locs ls hR hl hls T hT Z
  exact ⟨t, Z.ldcStringW X.hx X.hown (text := tx) (a := q) h3.1 h3.2 (g := F0 (mM M) pc ls st) rfl (by rw [X.hb]; exact hd) t a1, b1⟩
theorem r_getO {o n d : String} {v : Value} {q : Nat} (X : Cx E M own cc nL rm ret nm) (hd : decode cc pc = .ok (.getfield idx, 3)) (hO : va_OF o n d v q (oldA E) E.1 E.1.heap) (hlk : Cond.fieldLink own idx o n d ∈ lw_tbl) (kk : G E M cells slots Q (pc + 3) L (v :: st) w) : G E M cells slots Q pc L (.ref q :: st) w := by
  intro H locs ls hR hl hls
  obtain ⟨cf, k, fi, f, cell, h1, h2, h3, h4, h5, h6⟩ := va_OF.moved X.warm.alike hO
  exact W.getf X.hx X.hb X.hown (X.word hlk (Or.inl rfl)) h1 h2 (hR.old h3 h6) h4 h5 rfl rfl hd (kk H locs ls hR hl hls)
theorem r_getZ {o n d : String} {v : Value} (X : Cx E M own cc nL rm ret nm) (hd : decode cc pc = .ok (.getstatic idx, 3)) (hZ : va_Z o n d v (oldA E) E.1 E.1.heap) (hlk : Cond.fieldLink own idx o n d ∈ lw_tbl) (kk : G E M cells slots Q (pc + 3) L (v :: st) w) : G E M cells slots Q pc L st w := by
  intro H locs ls hR hl hls
  obtain ⟨cf, kf, fi, f, a, cell, h1, h2, h3, h4, h5, h6, h7, h8⟩ := va_Z.moved X.warm.alike hZ
  exact W.gets X.hx X.hb X.hown (X.word hlk (Or.inl rfl)) h1 h2 h3 h4 (hR.old h5 h8) (fun e => by rw [e] at h6; cases h6) h7 rfl hd (kk H locs ls hR hl hls)
theorem r_alenO {ty : FieldType} {t n : Nat} {f : Nat → Value} (X : Cx E M own cc nL rm ret nm) (hd : decode cc pc = .ok (.arraylength, 1)) (hT : va_T ty t n f (oldA E) E.1 E.1.heap) (kk : G E M cells slots Q (pc + 1) L (.int (nI n) :: st) w) : G E M cells slots Q pc L (.ref t :: st) w := by
  intro H locs ls hR hl hls
  obtain ⟨cell, h1, h2, h3, h4, h5, h6, h7⟩ := va_T.moved X.warm.alike hT
  exact W.alen X.hx X.hb (hR.old h1 h7) h2 h5 rfl rfl hd (kk H locs ls hR hl hls)
theorem r_baldO {t n j : Nat} {f : Nat → Value} (X : Cx E M own cc nL rm ret nm) (hd : decode cc pc = .ok (.baload, 1)) (hT : va_T .byte t n f (oldA E) E.1 E.1.heap) (hj : j < n) (hn : n < 2 ^ 31) (kk : G E M cells slots Q (pc + 1) L (f j :: st) w) : G E M cells slots Q pc L (.int (nI j) :: .ref t :: st) w := by
  intro H locs ls hR hl hls
  obtain ⟨cell, h1, h2, h3, h4, h5, h6, h7⟩ := va_T.moved X.warm.alike hT
  have hc := nI_clamp (n := j) (by omega)
  refine W.bald X.hx X.hb (hR.old h1 h7) h2 h3 ?_ (v := f j) (by rw [hc]; exact h6 j hj) rfl rfl hd (kk H locs ls hR hl hls)
  rw [hc]
  rintro (z | z)
  · exact nI_pos (by omega) z
  · omega
theorem r_i2c {x v : Int32} (X : Cx E M own cc nL rm ret nm) (hd : decode cc pc = .ok (.i2c, 1)) (hv : (x.toUInt32 % 65536).toInt32 = v) (kk : G E M cells slots Q (pc + 1) L (.int v :: st) w) : G E M cells slots Q pc L (.int x :: st) w := fun H locs ls hR hl hls => lv_i2c X.hx X.hb hd hv (kk H locs ls hR hl hls)
variable {y : MethodName} {bytes : ByteArray} {maxL n : Nat} {rt : Option FieldType} {rm' : Room} {As : List Value} {b : Nat} {post : Option Value → Wd → Prop}
/-- a call on an object that stood before -/
theorem q_callO (X : Cx E M own cc nL rm ret nm) (hd : decode cc pc = .ok (.invokevirtual idx, 3)) (hlk : VLk own idx y) (hw : CWd y bytes maxL rt n) (hct : Ct E y bytes maxL rt rm' (.ref b :: As) w post) (hst0 : st0 = As.reverse ++ .ref b :: st) (hO : va_O y.cls b (oldA E) E.1 E.1.heap) (hn : As.length = n) (hst : (st.map fun v => v.category).sum ≤ 8) (hrm : rm'.frames + 1 ≤ rm.frames ∧ 19 + maxL + rm'.locals ≤ rm.locals) (hf : cells + rm'.cells ≤ rm.cells ∧ slots + rm'.slots ≤ rm.slots)
    (kk : ∀ v w', post v w' → G E M (cells + rm'.cells) (slots + rm'.slots) Q (pc + 3) L (v.toList ++ st) w') : G E M cells slots Q pc L st0 w := by
  subst hst0
  intro H locs ls hR hl hls
  obtain ⟨h1, h2, h3, h4⟩ := X.cw hw
  obtain ⟨cell, g1, g2, g3, g4⟩ := va_O.moved X.warm.alike hO
  have hp : PreV (mS M) H y.cls b (Pq E (.ref b :: As) w) As := ⟨Pq.blind, ⟨cell, hR.old g1 g4, g2, g3⟩, fun U hU hW => ⟨rfl, State.WarmedH.trans X.warm hW, by rw [hU]; exact hR⟩⟩
  have S : CallFix (mP M) (mM M) (mC M) cc nL (mS M) (mA M) [] own := ⟨X.hx, X.hb, X.hml, X.hown, fun w h => by cases h⟩
  have hrm2 := room_ok X hrm
  have hf2 : cells + rm'.cells ≤ (mR M).cells ∧ slots + rm'.slots ≤ (mR M).slots := by rw [X.room]; exact hf
  have hsel := X.word (a' := mA M) hlk.2.2 (Or.inl rfl)
  have hin := X.word (a' := mA M) hlk.2.1 (Or.inl rfl)
  have hsz : (F0 (mM M) pc ls (As.reverse ++ .ref b :: st)).locals.size = nL := hls.1.trans X.hml
  rcases hlk.1 with h | ⟨host, h⟩
  · exact run_core (va_runV (As := As) (rest := st) (n := n) S (hct _) ⟨⟨rfl, rfl, hrm2.1, hrm2.2, h1, List.mem_cons_self, h2, h3, hw.2.2.1, h4, X.word h (Or.inl rfl)⟩, hin, hsel⟩ hp rfl hn hsz rfl (lv_room hst) hd hf2) hl hls kk
  · exact run_core (va_runVN (As := As) (rest := st) (n := n) S (hct _) ⟨⟨⟨rfl, rfl, hrm2.1, hrm2.2, h1, List.mem_cons_self⟩, h2, h3, hw.2.2.1, h4, X.nestM h⟩, hin, hsel⟩ hp rfl hn hsz rfl (lv_room hst) hd hf2) hl hls kk
end ST
theorem fS_9 : Cond.fieldLink RJ0 9 "java/lang/String" "value" "[B" ∈ lw_tbl := by decide +kernel
theorem fS_15 : Cond.fieldLink RJ0 15 "java/lang/String" "coder" "B" ∈ lw_tbl := by decide +kernel
theorem fS_38 : Cond.fieldLink RJ0 38 "java/lang/String" "COMPACT_STRINGS" "Z" ∈ lw_tbl := by decide +kernel
theorem fS_1053 : Cond.fieldLink RJ0 1053 "jdk/internal/util/Preconditions" "SIOOBE_FORMATTER" "Ljava/util/function/BiFunction;" ∈ lw_tbl := by decide +kernel
set_option maxHeartbeats 2000000 in
set_option maxRecDepth 20000 in
/-- java/lang/String.coder -/
theorem c_sCoder {E : Ev} (GE : Glob E) (q : Nat) (bs : List Int32) (w : Wd) (hZ : Stat E) (hq : StrAt E q bs) : Ct E yJ0_coder_7d493 cJ0_coder_7d493 1 (some .byte) (rmL 0) [.ref q] w (fun v w' => v = some (.int 0) ∧ w' = w) := by
  refine Ct.start GE (by decide) rfl (Nat.le_of_ble_eq_true rfl) (fun M X => ?_)
  have X : Cx E M RJ0 cJ0_coder_7d493 1 (rmL 0) (some .byte) "coder" := X
  refine r_loc (L' := [some (.ref q)]) rfl ?_
  refine r_getZ X dJ0_coder_7d493_0 hZ.1 fS_38 ?_
  refine r_if_eq (tgt := 13) X dJ0_coder_7d493_3 (by decide) (fun h3 => ?_) (fun h3 => ?_)
  · skip
    exact absurd h3 (by decide)
  · skip
    refine r_aload_n X dJ0_coder_7d493_6 rfl rfl ?_
    refine r_getO X dJ0_coder_7d493_7 hq.2.1 fS_15 ?_
    refine r_goto (tgt := 14) X dJ0_coder_7d493_10 (by decide) ?_
    refine r_ireturn X dJ0_coder_7d493_14 rfl (by first | omega | decide | (simp only [rmL, rmA]; omega)) (by first | omega | decide | (simp only [rmL, rmA]; omega)) ?_
    exact ⟨rfl, rfl⟩
set_option maxHeartbeats 2000000 in
set_option maxRecDepth 20000 in
/-- java/lang/String.isLatin1 -/
theorem c_sLat {E : Ev} (GE : Glob E) (q : Nat) (bs : List Int32) (w : Wd) (hZ : Stat E) (hq : StrAt E q bs) : Ct E yJ0_isLatin1_aae02 cJ0_isLatin1_aae02 1 (some .boolean) (rmL 0) [.ref q] w (fun v w' => v = some (.int 1) ∧ w' = w) := by
  refine Ct.start GE (by decide) rfl (Nat.le_of_ble_eq_true rfl) (fun M X => ?_)
  have X : Cx E M RJ0 cJ0_isLatin1_aae02 1 (rmL 0) (some .boolean) "isLatin1" := X
  refine r_loc (L' := [some (.ref q)]) rfl ?_
  refine r_getZ X dJ0_isLatin1_aae02_0 hZ.1 fS_38 ?_
  refine r_if_eq (tgt := 17) X dJ0_isLatin1_aae02_3 (by decide) (fun h3 => ?_) (fun h3 => ?_)
  · skip
    exact absurd h3 (by decide)
  · skip
    refine r_aload_n X dJ0_isLatin1_aae02_6 rfl rfl ?_
    refine r_getO X dJ0_isLatin1_aae02_7 hq.2.1 fS_15 ?_
    refine r_if_ne (tgt := 17) X dJ0_isLatin1_aae02_10 (by decide) (fun h10 => ?_) (fun h10 => ?_)
    · skip
      exact absurd rfl h10
    · skip
      refine r_iconst (v := 1) X dJ0_isLatin1_aae02_13 (by decide) ?_
      refine r_goto (tgt := 18) X dJ0_isLatin1_aae02_14 (by decide) ?_
      refine r_ireturn X dJ0_isLatin1_aae02_18 rfl (by first | omega | decide | (simp only [rmL, rmA]; omega)) (by first | omega | decide | (simp only [rmL, rmA]; omega)) ?_
      exact ⟨rfl, rfl⟩
theorem shr0 (n : Nat) (h : n < 2 ^ 31) : nI n >>> ((0 : Int32) &&& 31) = nI n := by
  have := pk_shrN h ((0 : Int32) &&& 31) 0 (by decide)
  simpa using this
set_option maxHeartbeats 2000000 in
set_option maxRecDepth 20000 in
/-- java/lang/String.length -/
theorem c_sLen {E : Ev} (GE : Glob E) (q : Nat) (bs : List Int32) (w : Wd) (hZ : Stat E) (hq : StrAt E q bs) : Ct E yJ0_length_8abf5 cJ0_length_8abf5 1 (some .int) (rmL 1) [.ref q] w (fun v w' => v = some (.int (nI bs.length)) ∧ w' = w) := by
  refine Ct.start GE (by decide) rfl (Nat.le_of_ble_eq_true rfl) (fun M X => ?_)
  have X : Cx E M RJ0 cJ0_length_8abf5 1 (rmL 1) (some .int) "length" := X
  refine r_loc (L' := [some (.ref q)]) rfl ?_
  obtain ⟨hO, hC, hlen, vq, hv, hT⟩ := id hq
  refine r_aload_n X dJ0_length_8abf5_0 rfl rfl ?_
  refine r_getO X dJ0_length_8abf5_1 hv fS_9 ?_
  refine r_alenO X dJ0_length_8abf5_4 hT ?_
  refine r_aload_n X dJ0_length_8abf5_5 rfl rfl ?_
  refine q_callO X dJ0_length_8abf5_6 mJ0_335 cwJ0_coder_7d493 (c_sCoder GE q bs w hZ hq) rfl hO rfl (Nat.le_of_ble_eq_true rfl) ⟨Nat.le_of_ble_eq_true rfl, Nat.le_of_ble_eq_true rfl⟩ ⟨Nat.le_of_ble_eq_true rfl, Nat.le_of_ble_eq_true rfl⟩ ?_
  rintro _ _ ⟨rfl, rfl⟩
  refine r_ishr X dJ0_length_8abf5_9 ?_
  refine r_topi (nI bs.length) (shr0 _ (by omega)) ?_
  refine r_ireturn X dJ0_length_8abf5_10 rfl (by first | omega | decide | (simp only [rmL, rmA]; omega)) (by first | omega | decide | (simp only [rmL, rmA]; omega)) ?_
  exact ⟨rfl, rfl⟩
set_option maxHeartbeats 2000000 in
set_option maxRecDepth 20000 in
theorem c_preIx {E : Ev} (GE : Glob E) (i n : Nat) (f : Value) (w : Wd) (hf : f.category = 1) (hi : i < n) (hn : n < 1000) : Ct E yJ3_checkIndex_8e157 cJ3_checkIndex_8e157 3 (some .int) (rmL 0) [.int (nI i), .int (nI n), f] w (fun v w' => v = some (.int (nI i)) ∧ w' = w) := by
  refine Ct.start GE (by decide) (by simp [hf]; exact ⟨rfl, rfl⟩) (Nat.le_of_ble_eq_true rfl) (fun M X => ?_)
  have X : Cx E M RJ3 cJ3_checkIndex_8e157 3 (rmL 0) (some .int) "checkIndex" := X
  refine r_loc (L' := [some (.int (nI i)), some (.int (nI n)), some f]) rfl ?_
  refine r_iload_n X dJ3_checkIndex_8e157_0 rfl rfl ?_
  refine r_if_lt (tgt := 9) X dJ3_checkIndex_8e157_1 (by decide) (fun h1 => ?_) (fun h1 => ?_)
  · skip
    exact absurd h1 (nI_pos (by omega))
  · skip
    refine r_iload_n X dJ3_checkIndex_8e157_4 rfl rfl ?_
    refine r_iload_n X dJ3_checkIndex_8e157_5 rfl rfl ?_
    refine r_icmpN_lt (tgt := 16) X dJ3_checkIndex_8e157_6 (by decide) (by omega) (by omega) (fun h6 => ?_) (fun h6 => ?_)
    · skip
      refine r_iload_n X dJ3_checkIndex_8e157_16 rfl rfl ?_
      refine r_ireturn X dJ3_checkIndex_8e157_17 rfl (by first | omega | decide | (simp only [rmL, rmA]; omega)) (by first | omega | decide | (simp only [rmL, rmA]; omega)) ?_
      exact ⟨rfl, rfl⟩
    · skip
      omega
set_option maxHeartbeats 2000000 in
set_option maxRecDepth 20000 in
/-- java/lang/String.checkIndex -/
theorem c_strIx {E : Ev} (GE : Glob E) (i n : Nat) (w : Wd) (hZ : Stat E) (hi : i < n) (hn : n < 1000) : Ct E yJ0_checkIndex_df160 cJ0_checkIndex_df160 2 none (rmL 1) [.int (nI i), .int (nI n)] w (fun v w' => v = none ∧ w' = w) := by
  refine Ct.start GE (by decide) rfl (Nat.le_of_ble_eq_true rfl) (fun M X => ?_)
  have X : Cx E M RJ0 cJ0_checkIndex_df160 2 (rmL 1) none "checkIndex" := X
  refine r_loc (L' := [some (.int (nI i)), some (.int (nI n))]) rfl ?_
  have H : ∀ f : Value, f.category = 1 → va_Z "jdk/internal/util/Preconditions" "SIOOBE_FORMATTER" "Ljava/util/function/BiFunction;" f (oldA E) E.1 E.1.heap → G E M 0 0 (qQ E M (rmL 1) (fun v w' => v = none ∧ w' = w)) 0 [some (.int (nI i)), some (.int (nI n))] [] w := by
    intro f hf hZf
    refine r_iload_n X dJ0_checkIndex_df160_0 rfl rfl ?_
    refine r_iload_n X dJ0_checkIndex_df160_1 rfl rfl ?_
    refine r_getZ X dJ0_checkIndex_df160_2 hZf fS_1053 ?_
    refine q_callS X dJ0_checkIndex_df160_5 mJ0_1059 cwJ3_checkIndex_8e157 (c_preIx GE i n f w hf hi hn) rfl rfl (Nat.le_of_ble_eq_true rfl) ⟨Nat.le_of_ble_eq_true rfl, Nat.le_of_ble_eq_true rfl⟩ ⟨(by first | omega | decide | (simp only [rmL, rmA]; omega)), (by first | omega | decide | (simp only [rmL, rmA]; omega))⟩ ?_
    rintro _ _ ⟨rfl, rfl⟩
    refine r_pop X dJ0_checkIndex_df160_8 rfl ?_
    refine r_return X dJ0_checkIndex_df160_9 (by first | omega | decide | (simp only [rmL, rmA]; omega)) (by first | omega | decide | (simp only [rmL, rmA]; omega)) ?_
    exact ⟨rfl, rfl⟩
  rcases hZ.2 with h | ⟨t, h⟩
  · exact H .null rfl h
  · exact H (.ref t) rfl h
set_option maxHeartbeats 2000000 in
set_option maxRecDepth 20000 in
/-- java/lang/StringLatin1.charAt -/
theorem c_l1At {E : Ev} (GE : Glob E) (vq i : Nat) (bs : List Int32) (w : Wd) (hZ : Stat E) (hT : va_T .byte vq bs.length (fun j => .int (bs.getD j 0)) (oldA E) E.1 E.1.heap) (hlen : bs.length < 1000) (hi : i < bs.length) : Ct E yJ1_charAt_3b067 cJ1_charAt_3b067 2 (some .char) (rmL 2) [.ref vq, .int (nI i)] w (fun v w' => v = some (.int (bs.getD i 0 &&& 255)) ∧ w' = w) := by
  refine Ct.start GE (by decide) rfl (Nat.le_of_ble_eq_true rfl) (fun M X => ?_)
  have X : Cx E M RJ1 cJ1_charAt_3b067 2 (rmL 2) (some .char) "charAt" := X
  refine r_loc (L' := [some (.ref vq), some (.int (nI i))]) rfl ?_
  refine r_iload_n X dJ1_charAt_3b067_0 rfl rfl ?_
  refine r_aload_n X dJ1_charAt_3b067_1 rfl rfl ?_
  refine r_alenO X dJ1_charAt_3b067_2 hT ?_
  refine q_callS X dJ1_charAt_3b067_3 mJ1_9 cwJ0_checkIndex_df160 (c_strIx GE i bs.length w hZ hi hlen) rfl rfl (Nat.le_of_ble_eq_true rfl) ⟨Nat.le_of_ble_eq_true rfl, Nat.le_of_ble_eq_true rfl⟩ ⟨(by first | omega | decide | (simp only [rmL, rmA]; omega)), (by first | omega | decide | (simp only [rmL, rmA]; omega))⟩ ?_
  rintro _ _ ⟨rfl, rfl⟩
  refine r_aload_n X dJ1_charAt_3b067_6 rfl rfl ?_
  refine r_iload_n X dJ1_charAt_3b067_7 rfl rfl ?_
  refine r_baldO X dJ1_charAt_3b067_8 hT hi (by omega) ?_
  refine r_sipush (v := 255) X dJ1_charAt_3b067_9 (by decide) ?_
  refine r_iand X dJ1_charAt_3b067_12 ?_
  refine r_i2c (v := bs.getD i 0 &&& 255) X dJ1_charAt_3b067_13 (sc_c2 _) ?_
  refine r_ireturn X dJ1_charAt_3b067_14 (sc_nar _) (by first | omega | decide | (simp only [rmL, rmA]; omega)) (by first | omega | decide | (simp only [rmL, rmA]; omega)) ?_
  exact ⟨rfl, rfl⟩
set_option maxHeartbeats 2000000 in
set_option maxRecDepth 20000 in
/-- java/lang/String.charAt -/
theorem c_charAt {E : Ev} (GE : Glob E) (q i : Nat) (bs : List Int32) (w : Wd) (hZ : Stat E) (hq : StrAt E q bs) (hi : i < bs.length) : Ct E yJ0_charAt_5068e cJ0_charAt_5068e 2 (some .char) (rmL 3) [.ref q, .int (nI i)] w (fun v w' => v = some (.int (bs.getD i 0 &&& 255)) ∧ w' = w) := by
  refine Ct.start GE (by decide) rfl (Nat.le_of_ble_eq_true rfl) (fun M X => ?_)
  have X : Cx E M RJ0 cJ0_charAt_5068e 2 (rmL 3) (some .char) "charAt" := X
  refine r_loc (L' := [some (.ref q), some (.int (nI i))]) rfl ?_
  obtain ⟨hO, hC, hlen, vq, hv, hT⟩ := id hq
  refine r_aload_n X dJ0_charAt_5068e_0 rfl rfl ?_
  refine q_callO X dJ0_charAt_5068e_1 mJ0_492 cwJ0_isLatin1_aae02 (c_sLat GE q bs w hZ hq) rfl hO rfl (Nat.le_of_ble_eq_true rfl) ⟨Nat.le_of_ble_eq_true rfl, Nat.le_of_ble_eq_true rfl⟩ ⟨Nat.le_of_ble_eq_true rfl, Nat.le_of_ble_eq_true rfl⟩ ?_
  rintro _ _ ⟨rfl, rfl⟩
  refine r_if_eq (tgt := 16) X dJ0_charAt_5068e_4 (by decide) (fun h4 => ?_) (fun h4 => ?_)
  · skip
    exact absurd h4 (by decide)
  · skip
    refine r_aload_n X dJ0_charAt_5068e_7 rfl rfl ?_
    refine r_getO X dJ0_charAt_5068e_8 hv fS_9 ?_
    refine r_iload_n X dJ0_charAt_5068e_11 rfl rfl ?_
    refine q_callS X dJ0_charAt_5068e_12 mJ0_495 cwJ1_charAt_3b067 (c_l1At GE vq i bs _ hZ hT hlen hi) rfl rfl (Nat.le_of_ble_eq_true rfl) ⟨Nat.le_of_ble_eq_true rfl, Nat.le_of_ble_eq_true rfl⟩ ⟨(by first | omega | decide | (simp only [rmL, rmA]; omega)), (by first | omega | decide | (simp only [rmL, rmA]; omega))⟩ ?_
    rintro _ _ ⟨rfl, rfl⟩
    refine r_ireturn X dJ0_charAt_5068e_15 (sc_nar _) (by first | omega | decide | (simp only [rmL, rmA]; omega)) (by first | omega | decide | (simp only [rmL, rmA]; omega)) ?_
    exact ⟨rfl, rfl⟩
