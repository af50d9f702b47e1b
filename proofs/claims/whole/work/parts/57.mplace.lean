/-! ===== the reference: place, spot ===== -/
def mGrp (I : Mem) (t : Nat) : Int32 := if I t 5 = 2 then 0 else if I t 5 = 1 then 1 else if I t 5 = 0 then 2 else 3
def mVal (I : Mem) (g n k t : Nat) (p : Int32) : Int32 := if p = 0 then mRes I g t (mD I t) n k else if p = 1 then -mWay I g t (mLn I t) else 0
def mAhead (I : Mem) (g n k a b : Nat) : Bool :=
  if mGrp I (mt g a) = mGrp I (mt g b) then
    (if mVal I g n k (mt g a) (mGrp I (mt g a)) = mVal I g n k (mt g b) (mGrp I (mt g a)) then decide (a < b) else decide (mVal I g n k (mt g a) (mGrp I (mt g a)) < mVal I g n k (mt g b) (mGrp I (mt g a))))
  else decide (mGrp I (mt g a) < mGrp I (mt g b))
set_option maxHeartbeats 2000000 in
set_option maxRecDepth 20000 in
/-- SledHouseModel.isAhead -/
theorem c_mAhead {E : Ev} (GE : Glob E) (S : Nat → Option (Nat × Nat)) (I : Nat → Nat → Int32) (V : Nat → Nat → Option Nat) (J : Nat → Nat → Int64) (N : Nat) (g n k a b : Nat) (hM : MdSh S V g) (hR : MrSh S V g) (ha6 : a < 6) (hb6 : b < 6) (hn : I g 4 = nI n) (hn12 : n ≤ 12) (hO : MlOK I g k) (hla : MtOK I (mt g a)) (hlb : MtOK I (mt g b)) : Ct E yX13_isAhead cX13_isAhead 9 (some .boolean) (rmL 4) [.ref g, .int (nI a), .int (nI b)] (S, I, V, J, N) (fun v w' => v = some (.int (bI (mAhead I g n k a b))) ∧ w' = (S, I, V, J, N)) := by
  refine Ct.start GE (by decide) rfl (Nat.le_of_ble_eq_true rfl) (fun M X => ?_)
  have X : Cx E M RX13 cX13_isAhead 9 (rmL 4) (some .boolean) "isAhead" := X
  refine r_loc (L' := [some (.ref g), some (.int (nI a)), some (.int (nI b)), none, none, none, none, none, none]) rfl ?_
  obtain ⟨hs0, v8, v9, v10, v11, v16, v17, v18, v19, v20, s1, s2, s3, s4, s5, s6, s7, s8, hOt, hTe, hKt⟩ := id hM
  have te1 := (hTe a ha6).1
  have hT := (hTe a ha6).2
  have te2 := (hTe b hb6).1
  have hU := (hTe b hb6).2
  have ts0 := hT.1
  have us0 := hU.1
  obtain ⟨ha1, ha2, ha3, ha4⟩ := id hla
  obtain ⟨hb1, hb2, hb3, hb4⟩ := id hlb
  generalize hp : mGrp I (mt g a) = p
  generalize hq : mGrp I (mt g b) = q
  generalize hv : mVal I g n k (mt g a) p = v
  generalize hw : mVal I g n k (mt g b) p = w
  have hA : mAhead I g n k a b = if p = q then (if v = w then decide (a < b) else decide (v < w)) else decide (p < q) := by rw [mAhead, hp, hq, hv, hw]
  generalize mAhead I g n k a b = z at hA ⊢
  have e178 : p = q → G E M 0 0 (qQ E M (rmL 4) (fun v w' => v = some (.int (bI z)) ∧ w' = (S, I, V, J, N))) 178 [some (.ref g), some (.int (nI a)), some (.int (nI b)), some (.ref (mt g a)), some (.ref (mt g b)), some (.int p), some (.int q), some (.int v), some (.int w)] [] (S, I, V, J, N) := by
    intro hpq
    rw [if_pos hpq] at hA
    refine r_iload X dX13_isAhead_178 rfl ?_
    refine r_iload X dX13_isAhead_180 rfl ?_
    refine r_icmp_eq (tgt := 200) X dX13_isAhead_182 (by decide) (fun h182 => ?_) (fun h182 => ?_)
    · skip
      refine r_iload_n X dX13_isAhead_200 rfl rfl ?_
      refine r_iload_n X dX13_isAhead_201 rfl rfl ?_
      refine r_icmpN_ge (tgt := 209) X dX13_isAhead_202 (by decide) (by omega) (by omega) (fun h202 => ?_) (fun h202 => ?_)
      · skip
        refine r_iconst (v := 0) X dX13_isAhead_209 (by decide) ?_
        refine r_ireturn X dX13_isAhead_210 rfl (by first | omega | decide | (simp only [rmL, rmA]; omega)) (by first | omega | decide | (simp only [rmL, rmA]; omega)) ?_
        refine ⟨?_, rfl⟩
        first
          | (rw [hA, if_pos h182, decide_eq_true (by omega)]; rfl; done)
          | (rw [hA, if_pos h182, decide_eq_false (by omega)]; rfl; done)
          | (rw [hA, if_neg h182, decide_eq_true (Int32.not_le.mp h189)]; rfl; done)
          | (rw [hA, if_neg h182, decide_eq_false (Int32.not_lt.mpr h189)]; rfl; done)
      · skip
        refine r_iconst (v := 1) X dX13_isAhead_205 (by decide) ?_
        refine r_goto (tgt := 210) X dX13_isAhead_206 (by decide) ?_
        refine r_ireturn X dX13_isAhead_210 rfl (by first | omega | decide | (simp only [rmL, rmA]; omega)) (by first | omega | decide | (simp only [rmL, rmA]; omega)) ?_
        refine ⟨?_, rfl⟩
        first
          | (rw [hA, if_pos h182, decide_eq_true (by omega)]; rfl; done)
          | (rw [hA, if_pos h182, decide_eq_false (by omega)]; rfl; done)
          | (rw [hA, if_neg h182, decide_eq_true (Int32.not_le.mp h189)]; rfl; done)
          | (rw [hA, if_neg h182, decide_eq_false (Int32.not_lt.mpr h189)]; rfl; done)
    · skip
      refine r_iload X dX13_isAhead_185 rfl ?_
      refine r_iload X dX13_isAhead_187 rfl ?_
      refine r_icmp_ge (tgt := 196) X dX13_isAhead_189 (by decide) (fun h189 => ?_) (fun h189 => ?_)
      · skip
        refine r_iconst (v := 0) X dX13_isAhead_196 (by decide) ?_
        refine r_goto (tgt := 210) X dX13_isAhead_197 (by decide) ?_
        refine r_ireturn X dX13_isAhead_210 rfl (by first | omega | decide | (simp only [rmL, rmA]; omega)) (by first | omega | decide | (simp only [rmL, rmA]; omega)) ?_
        refine ⟨?_, rfl⟩
        first
          | (rw [hA, if_pos h182, decide_eq_true (by omega)]; rfl; done)
          | (rw [hA, if_pos h182, decide_eq_false (by omega)]; rfl; done)
          | (rw [hA, if_neg h182, decide_eq_true (Int32.not_le.mp h189)]; rfl; done)
          | (rw [hA, if_neg h182, decide_eq_false (Int32.not_lt.mpr h189)]; rfl; done)
      · skip
        refine r_iconst (v := 1) X dX13_isAhead_192 (by decide) ?_
        refine r_goto (tgt := 210) X dX13_isAhead_193 (by decide) ?_
        refine r_ireturn X dX13_isAhead_210 rfl (by first | omega | decide | (simp only [rmL, rmA]; omega)) (by first | omega | decide | (simp only [rmL, rmA]; omega)) ?_
        refine ⟨?_, rfl⟩
        first
          | (rw [hA, if_pos h182, decide_eq_true (by omega)]; rfl; done)
          | (rw [hA, if_pos h182, decide_eq_false (by omega)]; rfl; done)
          | (rw [hA, if_neg h182, decide_eq_true (Int32.not_le.mp h189)]; rfl; done)
          | (rw [hA, if_neg h182, decide_eq_false (Int32.not_lt.mpr h189)]; rfl; done)
  have e176 : p = q → ∀ y, y = w → G E M 0 0 (qQ E M (rmL 4) (fun v w' => v = some (.int (bI z)) ∧ w' = (S, I, V, J, N))) 176 [some (.ref g), some (.int (nI a)), some (.int (nI b)), some (.ref (mt g a)), some (.ref (mt g b)), some (.int p), some (.int q), some (.int v), none] [.int y] (S, I, V, J, N) := by
    intro hpq y hy
    rw [hy]
    refine r_istore X dX13_isAhead_176 (by decide) rfl ?_
    exact e178 hpq
  have e143 : p = q → ∀ y, y = v → G E M 0 0 (qQ E M (rmL 4) (fun v w' => v = some (.int (bI z)) ∧ w' = (S, I, V, J, N))) 143 [some (.ref g), some (.int (nI a)), some (.int (nI b)), some (.ref (mt g a)), some (.ref (mt g b)), some (.int p), some (.int q), none, none] [.int y] (S, I, V, J, N) := by
    intro hpq y hy
    rw [hy]
    refine r_istore X dX13_isAhead_143 (by decide) rfl ?_
    refine r_iload X dX13_isAhead_145 rfl ?_
    refine r_if_ne (tgt := 159) X dX13_isAhead_147 (by decide) (fun h147 => ?_) (fun h147 => ?_)
    · skip
      refine r_iload X dX13_isAhead_159 rfl ?_
      refine r_iconst (v := 1) X dX13_isAhead_161 (by decide) ?_
      refine r_icmp_ne (tgt := 175) X dX13_isAhead_162 (by decide) (fun h162 => ?_) (fun h162 => ?_)
      · skip
        refine r_iconst (v := 0) X dX13_isAhead_175 (by decide) ?_
        exact e176 hpq _ (by rw [← hw, mVal]; first | (rw [if_pos h147]; done) | (rw [if_neg h147, if_pos h162]; done) | (rw [if_neg h147, if_neg h162]; done))
      · skip
        refine r_aload_n X dX13_isAhead_165 rfl rfl ?_
        refine r_aload X dX13_isAhead_166 rfl ?_
        refine q_callV X dX13_isAhead_168 mX13_391 cwX13_way (c_mWay GE S I V J N g _ _ hM hU hb1 hb2) rfl (by assumption) rfl rfl rfl (Nat.le_of_ble_eq_true rfl) ⟨Nat.le_of_ble_eq_true rfl, Nat.le_of_ble_eq_true rfl⟩ ⟨(by first | omega | decide | (simp only [rmL, rmA]; omega)), (by first | omega | decide | (simp only [rmL, rmA]; omega))⟩ ?_
        rintro _ _ ⟨rfl, rfl⟩
        refine r_ineg X dX13_isAhead_171 ?_
        refine r_goto (tgt := 176) X dX13_isAhead_172 (by decide) ?_
        exact e176 hpq _ (by rw [← hw, mVal]; first | (rw [if_pos h147]; done) | (rw [if_neg h147, if_pos h162]; done) | (rw [if_neg h147, if_neg h162]; done))
    · skip
      refine r_aload_n X dX13_isAhead_150 rfl rfl ?_
      refine r_aload X dX13_isAhead_151 rfl ?_
      refine q_callV X dX13_isAhead_153 mX13_405 cwX13_resultOf (c_mRes GE S I V J N g _ _ n k hM hR hU hb3 hb4 hn hn12 hO) rfl (by assumption) rfl rfl rfl (Nat.le_of_ble_eq_true rfl) ⟨Nat.le_of_ble_eq_true rfl, Nat.le_of_ble_eq_true rfl⟩ ⟨(by first | omega | decide | (simp only [rmL, rmA]; omega)), (by first | omega | decide | (simp only [rmL, rmA]; omega))⟩ ?_
      rintro _ _ ⟨rfl, rfl⟩
      refine r_goto (tgt := 176) X dX13_isAhead_156 (by decide) ?_
      exact e176 hpq _ (by rw [← hw, mVal]; first | (rw [if_pos h147]; done) | (rw [if_neg h147, if_pos h162]; done) | (rw [if_neg h147, if_neg h162]; done))
  have e94 : G E M 0 0 (qQ E M (rmL 4) (fun v w' => v = some (.int (bI z)) ∧ w' = (S, I, V, J, N))) 94 [some (.ref g), some (.int (nI a)), some (.int (nI b)), some (.ref (mt g a)), some (.ref (mt g b)), some (.int p), some (.int q), none, none] [] (S, I, V, J, N) := by
    refine r_iload X dX13_isAhead_94 rfl ?_
    refine r_iload X dX13_isAhead_96 rfl ?_
    refine r_icmp_eq (tgt := 114) X dX13_isAhead_98 (by decide) (fun h98 => ?_) (fun h98 => ?_)
    · skip
      refine r_iload X dX13_isAhead_114 rfl ?_
      refine r_if_ne (tgt := 127) X dX13_isAhead_116 (by decide) (fun h116 => ?_) (fun h116 => ?_)
      · skip
        refine r_iload X dX13_isAhead_127 rfl ?_
        refine r_iconst (v := 1) X dX13_isAhead_129 (by decide) ?_
        refine r_icmp_ne (tgt := 142) X dX13_isAhead_130 (by decide) (fun h130 => ?_) (fun h130 => ?_)
        · skip
          refine r_iconst (v := 0) X dX13_isAhead_142 (by decide) ?_
          exact e143 h98 _ (by rw [← hv, mVal]; first | (rw [if_pos h116]; done) | (rw [if_neg h116, if_pos h130]; done) | (rw [if_neg h116, if_neg h130]; done))
        · skip
          refine r_aload_n X dX13_isAhead_133 rfl rfl ?_
          refine r_aload_n X dX13_isAhead_134 rfl rfl ?_
          refine q_callV X dX13_isAhead_135 mX13_391 cwX13_way (c_mWay GE S I V J N g _ _ hM hT ha1 ha2) rfl (by assumption) rfl rfl rfl (Nat.le_of_ble_eq_true rfl) ⟨Nat.le_of_ble_eq_true rfl, Nat.le_of_ble_eq_true rfl⟩ ⟨(by first | omega | decide | (simp only [rmL, rmA]; omega)), (by first | omega | decide | (simp only [rmL, rmA]; omega))⟩ ?_
          rintro _ _ ⟨rfl, rfl⟩
          refine r_ineg X dX13_isAhead_138 ?_
          refine r_goto (tgt := 143) X dX13_isAhead_139 (by decide) ?_
          exact e143 h98 _ (by rw [← hv, mVal]; first | (rw [if_pos h116]; done) | (rw [if_neg h116, if_pos h130]; done) | (rw [if_neg h116, if_neg h130]; done))
      · skip
        refine r_aload_n X dX13_isAhead_119 rfl rfl ?_
        refine r_aload_n X dX13_isAhead_120 rfl rfl ?_
        refine q_callV X dX13_isAhead_121 mX13_405 cwX13_resultOf (c_mRes GE S I V J N g _ _ n k hM hR hT ha3 ha4 hn hn12 hO) rfl (by assumption) rfl rfl rfl (Nat.le_of_ble_eq_true rfl) ⟨Nat.le_of_ble_eq_true rfl, Nat.le_of_ble_eq_true rfl⟩ ⟨(by first | omega | decide | (simp only [rmL, rmA]; omega)), (by first | omega | decide | (simp only [rmL, rmA]; omega))⟩ ?_
        rintro _ _ ⟨rfl, rfl⟩
        refine r_goto (tgt := 143) X dX13_isAhead_124 (by decide) ?_
        exact e143 h98 _ (by rw [← hv, mVal]; first | (rw [if_pos h116]; done) | (rw [if_neg h116, if_pos h130]; done) | (rw [if_neg h116, if_neg h130]; done))
    · skip
      refine r_iload X dX13_isAhead_101 rfl ?_
      refine r_iload X dX13_isAhead_103 rfl ?_
      refine r_icmp_ge (tgt := 112) X dX13_isAhead_105 (by decide) (fun h105 => ?_) (fun h105 => ?_)
      · skip
        refine r_iconst (v := 0) X dX13_isAhead_112 (by decide) ?_
        refine r_ireturn X dX13_isAhead_113 rfl (by first | omega | decide | (simp only [rmL, rmA]; omega)) (by first | omega | decide | (simp only [rmL, rmA]; omega)) ?_
        refine ⟨?_, rfl⟩
        first
          | (rw [hA, if_neg h98, decide_eq_true (Int32.not_le.mp h105)]; rfl; done)
          | (rw [hA, if_neg h98, decide_eq_false (Int32.not_lt.mpr h105)]; rfl; done)
      · skip
        refine r_iconst (v := 1) X dX13_isAhead_108 (by decide) ?_
        refine r_goto (tgt := 113) X dX13_isAhead_109 (by decide) ?_
        refine r_ireturn X dX13_isAhead_113 rfl (by first | omega | decide | (simp only [rmL, rmA]; omega)) (by first | omega | decide | (simp only [rmL, rmA]; omega)) ?_
        refine ⟨?_, rfl⟩
        first
          | (rw [hA, if_neg h98, decide_eq_true (Int32.not_le.mp h105)]; rfl; done)
          | (rw [hA, if_neg h98, decide_eq_false (Int32.not_lt.mpr h105)]; rfl; done)
  have e92 : ∀ y, y = q → G E M 0 0 (qQ E M (rmL 4) (fun v w' => v = some (.int (bI z)) ∧ w' = (S, I, V, J, N))) 92 [some (.ref g), some (.int (nI a)), some (.int (nI b)), some (.ref (mt g a)), some (.ref (mt g b)), some (.int p), none, none, none] [.int y] (S, I, V, J, N) := by
    intro y hy
    rw [hy]
    refine r_istore X dX13_isAhead_92 (by decide) rfl ?_
    exact e94
  have e51 : ∀ y, y = p → G E M 0 0 (qQ E M (rmL 4) (fun v w' => v = some (.int (bI z)) ∧ w' = (S, I, V, J, N))) 51 [some (.ref g), some (.int (nI a)), some (.int (nI b)), some (.ref (mt g a)), some (.ref (mt g b)), none, none, none, none] [.int y] (S, I, V, J, N) := by
    intro y hy
    rw [hy]
    refine r_istore X dX13_isAhead_51 (by decide) rfl ?_
    refine r_aload X dX13_isAhead_53 rfl ?_
    refine r_getI X dX13_isAhead_55 fX13_289 (by assumption) (by first | assumption | rfl) ?_
    refine r_iconst (v := 2) X dX13_isAhead_58 (by decide) ?_
    refine r_icmp_ne (tgt := 66) X dX13_isAhead_59 (by decide) (fun h59 => ?_) (fun h59 => ?_)
    · skip
      refine r_aload X dX13_isAhead_66 rfl ?_
      refine r_getI X dX13_isAhead_68 fX13_289 (by assumption) (by first | assumption | rfl) ?_
      refine r_iconst (v := 1) X dX13_isAhead_71 (by decide) ?_
      refine r_icmp_ne (tgt := 79) X dX13_isAhead_72 (by decide) (fun h72 => ?_) (fun h72 => ?_)
      · skip
        refine r_aload X dX13_isAhead_79 rfl ?_
        refine r_getI X dX13_isAhead_81 fX13_289 (by assumption) (by first | assumption | rfl) ?_
        refine r_if_ne (tgt := 91) X dX13_isAhead_84 (by decide) (fun h84 => ?_) (fun h84 => ?_)
        · skip
          refine r_iconst (v := 3) X dX13_isAhead_91 (by decide) ?_
          exact e92 _ (by rw [← hq, mGrp]; first | (rw [if_pos h59]; done) | (rw [if_neg h59, if_pos h72]; done) | (rw [if_neg h59, if_neg h72, if_pos h84]; done) | (rw [if_neg h59, if_neg h72, if_neg h84]; done))
        · skip
          refine r_iconst (v := 2) X dX13_isAhead_87 (by decide) ?_
          refine r_goto (tgt := 92) X dX13_isAhead_88 (by decide) ?_
          exact e92 _ (by rw [← hq, mGrp]; first | (rw [if_pos h59]; done) | (rw [if_neg h59, if_pos h72]; done) | (rw [if_neg h59, if_neg h72, if_pos h84]; done) | (rw [if_neg h59, if_neg h72, if_neg h84]; done))
      · skip
        refine r_iconst (v := 1) X dX13_isAhead_75 (by decide) ?_
        refine r_goto (tgt := 92) X dX13_isAhead_76 (by decide) ?_
        exact e92 _ (by rw [← hq, mGrp]; first | (rw [if_pos h59]; done) | (rw [if_neg h59, if_pos h72]; done) | (rw [if_neg h59, if_neg h72, if_pos h84]; done) | (rw [if_neg h59, if_neg h72, if_neg h84]; done))
    · skip
      refine r_iconst (v := 0) X dX13_isAhead_62 (by decide) ?_
      refine r_goto (tgt := 92) X dX13_isAhead_63 (by decide) ?_
      exact e92 _ (by rw [← hq, mGrp]; first | (rw [if_pos h59]; done) | (rw [if_neg h59, if_pos h72]; done) | (rw [if_neg h59, if_neg h72, if_pos h84]; done) | (rw [if_neg h59, if_neg h72, if_neg h84]; done))
  refine r_aload_n X dX13_isAhead_0 rfl rfl ?_
  refine r_getR X dX13_isAhead_1 fX13_34 (by assumption) (by assumption) ?_
  refine r_iload_n X dX13_isAhead_4 rfl rfl ?_
  refine r_aaldN X dX13_isAhead_5 (by assumption) (by decide) rfl (by omega) (by omega) (by assumption) ?_
  refine r_astore_n X dX13_isAhead_6 rfl (by decide) rfl ?_
  refine r_aload_n X dX13_isAhead_7 rfl rfl ?_
  refine r_getR X dX13_isAhead_8 fX13_34 (by assumption) (by assumption) ?_
  refine r_iload_n X dX13_isAhead_11 rfl rfl ?_
  refine r_aaldN X dX13_isAhead_12 (by assumption) (by decide) rfl (by omega) (by omega) (by assumption) ?_
  refine r_astore X dX13_isAhead_13 (by decide) rfl ?_
  refine r_aload_n X dX13_isAhead_15 rfl rfl ?_
  refine r_getI X dX13_isAhead_16 fX13_289 (by assumption) (by first | assumption | rfl) ?_
  refine r_iconst (v := 2) X dX13_isAhead_19 (by decide) ?_
  refine r_icmp_ne (tgt := 27) X dX13_isAhead_20 (by decide) (fun h20 => ?_) (fun h20 => ?_)
  · skip
    refine r_aload_n X dX13_isAhead_27 rfl rfl ?_
    refine r_getI X dX13_isAhead_28 fX13_289 (by assumption) (by first | assumption | rfl) ?_
    refine r_iconst (v := 1) X dX13_isAhead_31 (by decide) ?_
    refine r_icmp_ne (tgt := 39) X dX13_isAhead_32 (by decide) (fun h32 => ?_) (fun h32 => ?_)
    · skip
      refine r_aload_n X dX13_isAhead_39 rfl rfl ?_
      refine r_getI X dX13_isAhead_40 fX13_289 (by assumption) (by first | assumption | rfl) ?_
      refine r_if_ne (tgt := 50) X dX13_isAhead_43 (by decide) (fun h43 => ?_) (fun h43 => ?_)
      · skip
        refine r_iconst (v := 3) X dX13_isAhead_50 (by decide) ?_
        exact e51 _ (by rw [← hp, mGrp]; first | (rw [if_pos h20]; done) | (rw [if_neg h20, if_pos h32]; done) | (rw [if_neg h20, if_neg h32, if_pos h43]; done) | (rw [if_neg h20, if_neg h32, if_neg h43]; done))
      · skip
        refine r_iconst (v := 2) X dX13_isAhead_46 (by decide) ?_
        refine r_goto (tgt := 51) X dX13_isAhead_47 (by decide) ?_
        exact e51 _ (by rw [← hp, mGrp]; first | (rw [if_pos h20]; done) | (rw [if_neg h20, if_pos h32]; done) | (rw [if_neg h20, if_neg h32, if_pos h43]; done) | (rw [if_neg h20, if_neg h32, if_neg h43]; done))
    · skip
      refine r_iconst (v := 1) X dX13_isAhead_35 (by decide) ?_
      refine r_goto (tgt := 51) X dX13_isAhead_36 (by decide) ?_
      exact e51 _ (by rw [← hp, mGrp]; first | (rw [if_pos h20]; done) | (rw [if_neg h20, if_pos h32]; done) | (rw [if_neg h20, if_neg h32, if_pos h43]; done) | (rw [if_neg h20, if_neg h32, if_neg h43]; done))
  · skip
    refine r_iconst (v := 0) X dX13_isAhead_23 (by decide) ?_
    refine r_goto (tgt := 51) X dX13_isAhead_24 (by decide) ?_
    exact e51 _ (by rw [← hp, mGrp]; first | (rw [if_pos h20]; done) | (rw [if_neg h20, if_pos h32]; done) | (rw [if_neg h20, if_neg h32, if_pos h43]; done) | (rw [if_neg h20, if_neg h32, if_neg h43]; done))
def mAheadN (I : Mem) (g n k t : Nat) : Nat → Nat
  | 0 => 0
  | j + 1 => if j ≠ t ∧ mAhead I g n k j t = true then mAheadN I g n k t j + 1 else mAheadN I g n k t j
theorem mAheadN_le (I : Mem) (g n k t : Nat) : ∀ j, mAheadN I g n k t j ≤ j
  | 0 => by simp [mAheadN]
  | j + 1 => by have := mAheadN_le I g n k t j; unfold mAheadN; split <;> omega
def mPlace (I : Mem) (g c n k : Nat) (x : Int32) : Int32 := oI (fst1 (fun t => decide (nI (mAheadN I g n k t c) = x)) c)
set_option maxHeartbeats 2000000 in
set_option maxRecDepth 20000 in
/-- SledHouseModel.place -/
theorem c_mPlace {E : Ev} (GE : Glob E) (S : Nat → Option (Nat × Nat)) (I : Nat → Nat → Int32) (V : Nat → Nat → Option Nat) (J : Nat → Nat → Int64) (N : Nat) (g c n k : Nat) (x : Int32) (hM : MdSh S V g) (hR : MrSh S V g) (h0 : I g 0 = 0) (hc : I g 5 = nI c) (hc6 : c ≤ 6) (hn : I g 4 = nI n) (hn12 : n ≤ 12) (hO : MlOK I g k) (hl : ∀ i, i < c → MtOK I (mt g i)) : Ct E yX13_place cX13_place 5 (some .int) (rmL 6) [.ref g, .int x] (S, I, V, J, N) (fun v w' => v = some (.int (mPlace I g c n k x)) ∧ w' = (S, I, V, J, N)) := by
  refine Ct.start GE (by decide) rfl (Nat.le_of_ble_eq_true rfl) (fun M X => ?_)
  have X : Cx E M RX13 cX13_place 5 (rmL 6) (some .int) "place" := X
  refine r_loc (L' := [some (.ref g), some (.int x), none, none, none]) rfl ?_
  obtain ⟨hs0, v8, v9, v10, v11, v16, v17, v18, v19, v20, s1, s2, s3, s4, s5, s6, s7, s8, hOt, hTe, hKt⟩ := id hM
  have H : ∀ t, t ≤ c → ∀ x3 x4, (∀ q, q < t → (decide (nI (mAheadN I g n k q c) = x)) = false) → G E M 0 0 (qQ E M (rmL 6) (fun v w' => v = some (.int (mPlace I g c n k x)) ∧ w' = (S, I, V, J, N))) 7 [some (.ref g), some (.int x), some (.int (nI t)), x3, x4] [] (S, I, V, J, N) := by
    refine loopN c (fun t ht iht => ?_)
    intro x3 x4 hno
    have H2 : t < c → ∀ j, j ≤ c → G E M 0 0 (qQ E M (rmL 6) (fun v w' => v = some (.int (mPlace I g c n k x)) ∧ w' = (S, I, V, J, N))) 20 [some (.ref g), some (.int x), some (.int (nI t)), some (.int (nI (mAheadN I g n k t j))), some (.int (nI j))] [] (S, I, V, J, N) := by
      intro htc
      refine loopN c (fun j hj ih => ?_)
      have hle := mAheadN_le I g n k t j
      refine r_iload X dX13_place_20 rfl ?_
      refine r_aload_n X dX13_place_22 rfl rfl ?_
      refine r_getI X dX13_place_23 fX13_94 (by assumption) (by first | assumption | rfl) ?_
      refine r_icmpN_ge (tgt := 59) X dX13_place_26 (by decide) (by omega) (by omega) (fun h26 => ?_) (fun h26 => ?_)
      · skip
        refine r_iload_n X dX13_place_59 rfl rfl ?_
        refine r_iload_n X dX13_place_60 rfl rfl ?_
        refine r_icmp_ne (tgt := 66) X dX13_place_61 (by decide) (fun h61 => ?_) (fun h61 => ?_)
        · skip
          first | refine r_iincN X dX13_place_66 rfl (by decide) rfl ?_ | refine r_iinc X dX13_place_66 rfl rfl (by decide) rfl ?_
          refine r_goto (tgt := 7) X dX13_place_69 (by decide) ?_
          obtain rfl : j = c := by omega
          refine iht htc _ _ (fun q hq => ?_)
          rcases Nat.lt_or_ge q t with z | z
          · exact hno q z
          · obtain rfl : q = t := by omega
            simpa using h61
        · skip
          refine r_iload_n X dX13_place_64 rfl rfl ?_
          refine r_ireturn X dX13_place_65 rfl (by first | omega | decide | (simp only [rmL, rmA]; omega)) (by first | omega | decide | (simp only [rmL, rmA]; omega)) ?_
          obtain rfl : j = c := by omega
          exact ⟨by rw [mPlace, fst1_some (j := t) (by simpa using h61) hno htc]; rfl, rfl⟩
      · skip
        refine r_iload_n X dX13_place_29 rfl rfl ?_
        refine r_iload X dX13_place_30 rfl ?_
        refine r_iload_n X dX13_place_32 rfl rfl ?_
        refine r_icmpN_eq (tgt := 50) X dX13_place_33 (by decide) (by omega) (by omega) (fun h33 => ?_) (fun h33 => ?_)
        · skip
          refine r_iconst (v := 0) X dX13_place_50 (by decide) ?_
          have hcs : G E M 0 0 (qQ E M (rmL 6) (fun v w' => v = some (.int (mPlace I g c n k x)) ∧ w' = (S, I, V, J, N))) 52 [some (.ref g), some (.int x), some (.int (nI t)), some (.int (nI (mAheadN I g n k t j))), some (.int (nI j))] [.int (nI (mAheadN I g n k t (j + 1)))] (S, I, V, J, N) := by
            refine r_istore_n X dX13_place_52 rfl (by decide) rfl ?_
            first | refine r_iincN X dX13_place_53 rfl (by decide) rfl ?_ | refine r_iinc X dX13_place_53 rfl rfl (by decide) rfl ?_
            refine r_goto (tgt := 20) X dX13_place_56 (by decide) ?_
            exact ih (by omega)
          refine r_iadd X dX13_place_51 ?_
          first
            | (refine r_topi (nI (mAheadN I g n k t (j + 1))) (by rw [mAheadN, if_pos ⟨h33, bI_1 h43⟩]; exact nI_1 _) ?_
               exact hcs)
            | (refine r_topi (nI (mAheadN I g n k t (j + 1))) (by rw [mAheadN, if_neg (fun z => absurd ((bI_0 h43).symm.trans z.2) (by decide))]; exact nI_add _ 0) ?_
               exact hcs)
            | (refine r_topi (nI (mAheadN I g n k t (j + 1))) (by rw [mAheadN, if_neg (fun z => z.1 h33)]; exact nI_add _ 0) ?_
               exact hcs)
        · skip
          refine r_aload_n X dX13_place_36 rfl rfl ?_
          refine r_iload X dX13_place_37 rfl ?_
          refine r_iload_n X dX13_place_39 rfl rfl ?_
          refine q_callV X dX13_place_40 mX13_408 cwX13_isAhead (c_mAhead GE S I V J N g n k j t hM hR (by omega) (by omega) hn hn12 hO (hl j (by omega)) (hl t htc)) rfl (by assumption) rfl rfl rfl (Nat.le_of_ble_eq_true rfl) ⟨Nat.le_of_ble_eq_true rfl, Nat.le_of_ble_eq_true rfl⟩ ⟨(by first | omega | decide | (simp only [rmL, rmA]; omega)), (by first | omega | decide | (simp only [rmL, rmA]; omega))⟩ ?_
          rintro _ _ ⟨rfl, rfl⟩
          refine r_if_eq (tgt := 50) X dX13_place_43 (by decide) (fun h43 => ?_) (fun h43 => ?_)
          · skip
            refine r_iconst (v := 0) X dX13_place_50 (by decide) ?_
            have hcs : G E M 0 0 (qQ E M (rmL 6) (fun v w' => v = some (.int (mPlace I g c n k x)) ∧ w' = (S, I, V, J, N))) 52 [some (.ref g), some (.int x), some (.int (nI t)), some (.int (nI (mAheadN I g n k t j))), some (.int (nI j))] [.int (nI (mAheadN I g n k t (j + 1)))] (S, I, V, J, N) := by
              refine r_istore_n X dX13_place_52 rfl (by decide) rfl ?_
              first | refine r_iincN X dX13_place_53 rfl (by decide) rfl ?_ | refine r_iinc X dX13_place_53 rfl rfl (by decide) rfl ?_
              refine r_goto (tgt := 20) X dX13_place_56 (by decide) ?_
              exact ih (by omega)
            refine r_iadd X dX13_place_51 ?_
            first
              | (refine r_topi (nI (mAheadN I g n k t (j + 1))) (by rw [mAheadN, if_pos ⟨h33, bI_1 h43⟩]; exact nI_1 _) ?_
                 exact hcs)
              | (refine r_topi (nI (mAheadN I g n k t (j + 1))) (by rw [mAheadN, if_neg (fun z => absurd ((bI_0 h43).symm.trans z.2) (by decide))]; exact nI_add _ 0) ?_
                 exact hcs)
              | (refine r_topi (nI (mAheadN I g n k t (j + 1))) (by rw [mAheadN, if_neg (fun z => z.1 h33)]; exact nI_add _ 0) ?_
                 exact hcs)
          · skip
            refine r_iconst (v := 1) X dX13_place_46 (by decide) ?_
            refine r_goto (tgt := 51) X dX13_place_47 (by decide) ?_
            have hcs : G E M 0 0 (qQ E M (rmL 6) (fun v w' => v = some (.int (mPlace I g c n k x)) ∧ w' = (S, I, V, J, N))) 52 [some (.ref g), some (.int x), some (.int (nI t)), some (.int (nI (mAheadN I g n k t j))), some (.int (nI j))] [.int (nI (mAheadN I g n k t (j + 1)))] (S, I, V, J, N) := by
              refine r_istore_n X dX13_place_52 rfl (by decide) rfl ?_
              first | refine r_iincN X dX13_place_53 rfl (by decide) rfl ?_ | refine r_iinc X dX13_place_53 rfl rfl (by decide) rfl ?_
              refine r_goto (tgt := 20) X dX13_place_56 (by decide) ?_
              exact ih (by omega)
            refine r_iadd X dX13_place_51 ?_
            first
              | (refine r_topi (nI (mAheadN I g n k t (j + 1))) (by rw [mAheadN, if_pos ⟨h33, bI_1 h43⟩]; exact nI_1 _) ?_
                 exact hcs)
              | (refine r_topi (nI (mAheadN I g n k t (j + 1))) (by rw [mAheadN, if_neg (fun z => absurd ((bI_0 h43).symm.trans z.2) (by decide))]; exact nI_add _ 0) ?_
                 exact hcs)
              | (refine r_topi (nI (mAheadN I g n k t (j + 1))) (by rw [mAheadN, if_neg (fun z => z.1 h33)]; exact nI_add _ 0) ?_
                 exact hcs)
    refine r_iload_n X dX13_place_7 rfl rfl ?_
    refine r_aload_n X dX13_place_8 rfl rfl ?_
    refine r_getI X dX13_place_9 fX13_94 (by assumption) (by first | assumption | rfl) ?_
    refine r_icmpN_ge (tgt := 72) X dX13_place_12 (by decide) (by omega) (by omega) (fun h12 => ?_) (fun h12 => ?_)
    · skip
      refine r_iconst (v := -1) X dX13_place_72 (by decide) ?_
      refine r_ireturn X dX13_place_73 rfl (by first | omega | decide | (simp only [rmL, rmA]; omega)) (by first | omega | decide | (simp only [rmL, rmA]; omega)) ?_
      obtain rfl : t = c := by omega
      exact ⟨by rw [mPlace, fst1_none hno]; rfl, rfl⟩
    · skip
      refine r_iconst (v := nI 0) X dX13_place_15 (by decide) ?_
      refine r_istore_n X dX13_place_16 rfl (by decide) rfl ?_
      refine r_iconst (v := nI 0) X dX13_place_17 (by decide) ?_
      refine r_istore X dX13_place_18 (by decide) rfl ?_
      exact H2 (by omega) 0 (by omega)
  refine r_aload_n X dX13_place_0 rfl rfl ?_
  refine r_iconst (v := 0) X dX13_place_1 (by decide) ?_
  refine r_putI X dX13_place_2 fX13_1 wX13_1 (by assumption) rfl rfl ?_
  refine r_world (w' := (S, I, V, J, N)) (by rw [up2_id I h0]) ?_
  refine r_iconst (v := nI 0) X dX13_place_5 (by decide) ?_
  refine r_istore_n X dX13_place_6 rfl (by decide) rfl ?_
  exact H 0 (by omega) none none (fun q hq => absurd hq (by omega))
