/-! ===== the reference: spot ===== -/
def mSg (I : Mem) (t : Nat) : Nat := (I t 11).toNatClampNeg
def mPast (I : Mem) (t sg : Nat) (s : Int32) : Nat := (fst1 (fun k => decide (s < I (t + 6) k)) sg).getD sg
theorem mPast_le (I : Mem) (t sg : Nat) (s : Int32) : mPast I t sg s ≤ sg := by
  unfold mPast
  rcases h : fst1 (fun k => decide (s < I (t + 6) k)) sg with _ | j
  · exact Nat.le_refl _
  · exact Nat.le_of_lt (fst1_lt h)
def mLow (I : Mem) (t : Nat) : Nat → Int32
  | 0 => 0
  | q + 1 => I (t + 7) q
def mHigh (I : Mem) (t : Nat) (s : Int32) : Nat → Int32
  | 0 => if s < I t 3 then 0 else 60 * (s - I t 3 + 1)
  | q + 1 => I (t + 7) q + 60 * (s - I (t + 6) q)
def mSp (I : Mem) (g t n sg : Nat) (s b : Int32) (p : Nat) : Int32 :=
  if b = 0 then (if p < sg then iMax (mLow I t p) (I (t + 7) p - 60 * (I (t + 6) p - s)) else mLow I t p)
  else iMin (mHigh I t s p) (if p < sg then I (t + 7) p else mTrail I g n)
def mSpot (I : Mem) (g c n : Nat) (x s b : Int32) : Int32 := match ixI x c with
  | none => -1
  | some i => if 0 ≤ s ∧ s < I g 6 then mSp I g (mt g i) n (mSg I (mt g i)) s b (mPast I (mt g i) (mSg I (mt g i)) s) else -1
set_option maxHeartbeats 2000000 in
set_option maxRecDepth 20000 in
/-- SledHouseModel.spot -/
theorem c_mSpot {E : Ev} (GE : Glob E) (S : Nat → Option (Nat × Nat)) (I : Nat → Nat → Int32) (V : Nat → Nat → Option Nat) (J : Nat → Nat → Int64) (N : Nat) (g c n : Nat) (x s b : Int32) (hM : MdSh S V g) (h0 : I g 0 = 0) (hc : I g 5 = nI c) (hc6 : c ≤ 6) (hn : I g 4 = nI n) (hn12 : n ≤ 12) (hg : ∀ i, i < c → I (mt g i) 11 = nI (mSg I (mt g i)) ∧ mSg I (mt g i) ≤ 2000) : Ct E yX13_spot cX13_spot 8 (some .int) (rmL 1) [.ref g, .int x, .int s, .int b] (S, I, V, J, N) (fun v w' => v = some (.int (mSpot I g c n x s b)) ∧ w' = (S, I, V, J, N)) := by
  refine Ct.start GE (by decide) rfl (Nat.le_of_ble_eq_true rfl) (fun M X => ?_)
  have X : Cx E M RX13 cX13_spot 8 (rmL 1) (some .int) "spot" := X
  refine r_loc (L' := [some (.ref g), some (.int x), some (.int s), some (.int b), none, none, none, none]) rfl ?_
  obtain ⟨hs0, v8, v9, v10, v11, v16, v17, v18, v19, v20, s1, s2, s3, s4, s5, s6, s7, s8, hOt, hTe, hKt⟩ := id hM
  rcases hx : ixI x c with _ | i
  · skip
    refine r_aload_n X dX13_spot_0 rfl rfl ?_
    refine r_iconst (v := 0) X dX13_spot_1 (by decide) ?_
    refine r_putI X dX13_spot_2 fX13_1 wX13_1 (by assumption) rfl rfl ?_
    refine r_world (w' := (S, I, V, J, N)) (by rw [up2_id I h0]) ?_
    refine r_aload_n X dX13_spot_5 rfl rfl ?_
    refine r_iload_n X dX13_spot_6 rfl rfl ?_
    refine q_callV X dX13_spot_7 mX13_286 cwX13_isTeam (c_mIsTeam GE S I V J N g c x hs0 hc) rfl (by assumption) rfl rfl rfl (Nat.le_of_ble_eq_true rfl) ⟨Nat.le_of_ble_eq_true rfl, Nat.le_of_ble_eq_true rfl⟩ ⟨(by first | omega | decide | (simp only [rmL, rmA]; omega)), (by first | omega | decide | (simp only [rmL, rmA]; omega))⟩ ?_
    rintro _ _ ⟨rfl, rfl⟩
    refine r_if_eq (tgt := 25) X dX13_spot_10 (by decide) (fun h10 => ?_) (fun h10 => ?_)
    · skip
      refine r_iconst (v := -1) X dX13_spot_25 (by decide) ?_
      refine r_ireturn X dX13_spot_26 rfl (by first | omega | decide | (simp only [rmL, rmA]; omega)) (by first | omega | decide | (simp only [rmL, rmA]; omega)) ?_
      exact ⟨by simp [mSpot, hx], rfl⟩
    · skip
      exact (ix_f hx h10).elim
  · skip
    obtain ⟨hi, rfl⟩ := ixI_some (by omega) hx
    have te1 : V (g + 4) i = some (mt g i) := (hTe i (by omega)).1
    have hT : MtSh S V (mt g i) := (hTe i (by omega)).2
    obtain ⟨hg1, hg2⟩ := hg i hi
    have hA : 0 ≤ s ∧ s < I g 6 → mSpot I g c n (nI i) s b = mSp I g (mt g i) n (mSg I (mt g i)) s b (mPast I (mt g i) (mSg I (mt g i)) s) := fun z => by
      simp only [mSpot, hx]
      rw [if_pos z]
    have hB : ¬ (0 ≤ s ∧ s < I g 6) → mSpot I g c n (nI i) s b = -1 := fun z => by
      simp only [mSpot, hx]
      rw [if_neg z]
    generalize mSpot I g c n (nI i) s b = a at hA hB ⊢
    have hple := mPast_le I (mt g i) (mSg I (mt g i)) s
    generalize hP : mPast I (mt g i) (mSg I (mt g i)) s = P at hA hple
    generalize hT1 : mt g i = t at *
    generalize hSG : mSg I t = sg at *
    obtain ⟨ts0, u15, u16, u17, u18, u19, u20, u21, u22, u23, w1, w2, w3, w4, w5, w6, w7, w8, w9⟩ := id hT
    have e66 : 0 ≤ s ∧ s < I g 6 → G E M 0 0 (qQ E M (rmL 1) (fun v w' => v = some (.int a) ∧ w' = (S, I, V, J, N))) 66 [some (.ref g), some (.int (nI i)), some (.int s), some (.int b), some (.ref t), some (.int (nI P)), none, none] [] (S, I, V, J, N) := by
      intro hz
      have hA := hA hz
      rcases P with _ | q
      · skip
        refine r_iload X dX13_spot_66 rfl ?_
        refine r_if_le (tgt := 84) X dX13_spot_68 (by decide) (fun h68 => ?_) (fun h68 => ?_)
        · skip
          refine r_iconst (v := 0) X dX13_spot_84 (by decide) ?_
          refine r_istore X dX13_spot_85 (by decide) rfl ?_
          refine r_iload X dX13_spot_87 rfl ?_
          refine r_if_le (tgt := 113) X dX13_spot_89 (by decide) (fun h89 => ?_) (fun h89 => ?_)
          · skip
            refine r_iload_n X dX13_spot_113 rfl rfl ?_
            refine r_aload X dX13_spot_114 rfl ?_
            refine r_getI X dX13_spot_116 fX13_333 (by assumption) (by first | assumption | rfl) ?_
            refine r_icmp_ge (tgt := 126) X dX13_spot_119 (by decide) (fun h119 => ?_) (fun h119 => ?_)
            · skip
              refine r_bipush (v := 60) X dX13_spot_126 (by decide) ?_
              refine r_iload_n X dX13_spot_128 rfl rfl ?_
              refine r_aload X dX13_spot_129 rfl ?_
              refine r_getI X dX13_spot_131 fX13_333 (by assumption) (by first | assumption | rfl) ?_
              refine r_isub X dX13_spot_134 ?_
              refine r_iconst (v := 1) X dX13_spot_135 (by decide) ?_
              refine r_iadd X dX13_spot_136 ?_
              refine r_imul X dX13_spot_137 ?_
              refine r_istore X dX13_spot_138 (by decide) rfl ?_
              refine r_iload X dX13_spot_140 rfl ?_
              refine r_aload X dX13_spot_142 rfl ?_
              refine r_getI X dX13_spot_144 fX13_385 (by assumption) (by first | assumption | rfl) ?_
              refine r_icmpN_ge (tgt := 179) X dX13_spot_147 (by decide) (by omega) (by omega) (fun h147 => ?_) (fun h147 => ?_)
              · skip
                refine r_iload X dX13_spot_179 rfl ?_
                refine r_iload X dX13_spot_181 rfl ?_
                refine r_aload X dX13_spot_183 rfl ?_
                refine r_getI X dX13_spot_185 fX13_385 (by assumption) (by first | assumption | rfl) ?_
                refine r_icmpN_ge (tgt := 202) X dX13_spot_188 (by decide) (by omega) (by omega) (fun h188 => ?_) (fun h188 => ?_)
                · skip
                  refine r_aload_n X dX13_spot_202 rfl rfl ?_
                  refine q_callV X dX13_spot_203 mX13_412 cwX13_trail (c_mTrail GE S I V J N g n hM hn hn12) rfl (by assumption) rfl rfl rfl (Nat.le_of_ble_eq_true rfl) ⟨Nat.le_of_ble_eq_true rfl, Nat.le_of_ble_eq_true rfl⟩ ⟨(by first | omega | decide | (simp only [rmL, rmA]; omega)), (by first | omega | decide | (simp only [rmL, rmA]; omega))⟩ ?_
                  rintro _ _ ⟨rfl, rfl⟩
                  refine r_mmin X dX13_spot_206 mmX13_398 (Nat.le_of_ble_eq_true rfl) (Nat.le_of_ble_eq_true rfl) (by first | omega | decide | (simp only [rmL, rmA]; omega)) (by first | omega | decide | (simp only [rmL, rmA]; omega)) ?_
                  refine r_istore X dX13_spot_209 (by decide) rfl ?_
                  refine r_iload_n X dX13_spot_211 rfl rfl ?_
                  refine r_if_eq (tgt := 220) X dX13_spot_212 (by decide) (fun h212 => ?_) (fun h212 => ?_)
                  · skip
                    refine r_iload X dX13_spot_220 rfl ?_
                    refine r_ireturn X dX13_spot_222 rfl (by first | omega | decide | (simp only [rmL, rmA]; omega)) (by first | omega | decide | (simp only [rmL, rmA]; omega)) ?_
                    refine ⟨?_, rfl⟩
                    rw [hA, mSp, mLow, mHigh]
                    first
                      | (exfalso; omega)
                      | (rw [if_pos h212, if_pos (show 0 < sg by omega)]; done)
                      | (rw [if_pos h212, if_neg (show ¬ 0 < sg by omega)]; done)
                      | (rw [if_neg h212, if_pos (show 0 < sg by omega), if_neg (Int32.not_lt.mpr h119)]; done)
                      | (rw [if_neg h212, if_pos (show 0 < sg by omega), if_pos (Int32.not_le.mp h119)]; done)
                      | (rw [if_neg h212, if_neg (show ¬ 0 < sg by omega), if_neg (Int32.not_lt.mpr h119)]; done)
                      | (rw [if_neg h212, if_neg (show ¬ 0 < sg by omega), if_pos (Int32.not_le.mp h119)]; done)
                  · skip
                    refine r_iload X dX13_spot_215 rfl ?_
                    refine r_goto (tgt := 222) X dX13_spot_217 (by decide) ?_
                    refine r_ireturn X dX13_spot_222 rfl (by first | omega | decide | (simp only [rmL, rmA]; omega)) (by first | omega | decide | (simp only [rmL, rmA]; omega)) ?_
                    refine ⟨?_, rfl⟩
                    rw [hA, mSp, mLow, mHigh]
                    first
                      | (exfalso; omega)
                      | (rw [if_pos h212, if_pos (show 0 < sg by omega)]; done)
                      | (rw [if_pos h212, if_neg (show ¬ 0 < sg by omega)]; done)
                      | (rw [if_neg h212, if_pos (show 0 < sg by omega), if_neg (Int32.not_lt.mpr h119)]; done)
                      | (rw [if_neg h212, if_pos (show 0 < sg by omega), if_pos (Int32.not_le.mp h119)]; done)
                      | (rw [if_neg h212, if_neg (show ¬ 0 < sg by omega), if_neg (Int32.not_lt.mpr h119)]; done)
                      | (rw [if_neg h212, if_neg (show ¬ 0 < sg by omega), if_pos (Int32.not_le.mp h119)]; done)
                · skip
                  refine r_aload X dX13_spot_191 rfl ?_
                  refine r_getR X dX13_spot_193 fX13_388 (by assumption) (by assumption) ?_
                  refine r_iload X dX13_spot_196 rfl ?_
                  refine r_ialdN X dX13_spot_198 (by assumption) (by omega) (by omega) (by first | assumption | rfl) ?_
                  refine r_goto (tgt := 206) X dX13_spot_199 (by decide) ?_
                  refine r_mmin X dX13_spot_206 mmX13_398 (Nat.le_of_ble_eq_true rfl) (Nat.le_of_ble_eq_true rfl) (by first | omega | decide | (simp only [rmL, rmA]; omega)) (by first | omega | decide | (simp only [rmL, rmA]; omega)) ?_
                  refine r_istore X dX13_spot_209 (by decide) rfl ?_
                  refine r_iload_n X dX13_spot_211 rfl rfl ?_
                  refine r_if_eq (tgt := 220) X dX13_spot_212 (by decide) (fun h212 => ?_) (fun h212 => ?_)
                  · skip
                    refine r_iload X dX13_spot_220 rfl ?_
                    refine r_ireturn X dX13_spot_222 rfl (by first | omega | decide | (simp only [rmL, rmA]; omega)) (by first | omega | decide | (simp only [rmL, rmA]; omega)) ?_
                    refine ⟨?_, rfl⟩
                    rw [hA, mSp, mLow, mHigh]
                    first
                      | (exfalso; omega)
                      | (rw [if_pos h212, if_pos (show 0 < sg by omega)]; done)
                      | (rw [if_pos h212, if_neg (show ¬ 0 < sg by omega)]; done)
                      | (rw [if_neg h212, if_pos (show 0 < sg by omega), if_neg (Int32.not_lt.mpr h119)]; done)
                      | (rw [if_neg h212, if_pos (show 0 < sg by omega), if_pos (Int32.not_le.mp h119)]; done)
                      | (rw [if_neg h212, if_neg (show ¬ 0 < sg by omega), if_neg (Int32.not_lt.mpr h119)]; done)
                      | (rw [if_neg h212, if_neg (show ¬ 0 < sg by omega), if_pos (Int32.not_le.mp h119)]; done)
                  · skip
                    refine r_iload X dX13_spot_215 rfl ?_
                    refine r_goto (tgt := 222) X dX13_spot_217 (by decide) ?_
                    refine r_ireturn X dX13_spot_222 rfl (by first | omega | decide | (simp only [rmL, rmA]; omega)) (by first | omega | decide | (simp only [rmL, rmA]; omega)) ?_
                    refine ⟨?_, rfl⟩
                    rw [hA, mSp, mLow, mHigh]
                    first
                      | (exfalso; omega)
                      | (rw [if_pos h212, if_pos (show 0 < sg by omega)]; done)
                      | (rw [if_pos h212, if_neg (show ¬ 0 < sg by omega)]; done)
                      | (rw [if_neg h212, if_pos (show 0 < sg by omega), if_neg (Int32.not_lt.mpr h119)]; done)
                      | (rw [if_neg h212, if_pos (show 0 < sg by omega), if_pos (Int32.not_le.mp h119)]; done)
                      | (rw [if_neg h212, if_neg (show ¬ 0 < sg by omega), if_neg (Int32.not_lt.mpr h119)]; done)
                      | (rw [if_neg h212, if_neg (show ¬ 0 < sg by omega), if_pos (Int32.not_le.mp h119)]; done)
              · skip
                refine r_iload X dX13_spot_150 rfl ?_
                refine r_aload X dX13_spot_152 rfl ?_
                refine r_getR X dX13_spot_154 fX13_388 (by assumption) (by assumption) ?_
                refine r_iload X dX13_spot_157 rfl ?_
                refine r_ialdN X dX13_spot_159 (by assumption) (by omega) (by omega) (by first | assumption | rfl) ?_
                refine r_bipush (v := 60) X dX13_spot_160 (by decide) ?_
                refine r_aload X dX13_spot_162 rfl ?_
                refine r_getR X dX13_spot_164 fX13_382 (by assumption) (by assumption) ?_
                refine r_iload X dX13_spot_167 rfl ?_
                refine r_ialdN X dX13_spot_169 (by assumption) (by omega) (by omega) (by first | assumption | rfl) ?_
                refine r_iload_n X dX13_spot_170 rfl rfl ?_
                refine r_isub X dX13_spot_171 ?_
                refine r_imul X dX13_spot_172 ?_
                refine r_isub X dX13_spot_173 ?_
                refine r_mmax X dX13_spot_174 mmX13_363 (Nat.le_of_ble_eq_true rfl) (Nat.le_of_ble_eq_true rfl) (by first | omega | decide | (simp only [rmL, rmA]; omega)) (by first | omega | decide | (simp only [rmL, rmA]; omega)) ?_
                refine r_istore X dX13_spot_177 (by decide) rfl ?_
                refine r_iload X dX13_spot_179 rfl ?_
                refine r_iload X dX13_spot_181 rfl ?_
                refine r_aload X dX13_spot_183 rfl ?_
                refine r_getI X dX13_spot_185 fX13_385 (by assumption) (by first | assumption | rfl) ?_
                refine r_icmpN_ge (tgt := 202) X dX13_spot_188 (by decide) (by omega) (by omega) (fun h188 => ?_) (fun h188 => ?_)
                · skip
                  refine r_aload_n X dX13_spot_202 rfl rfl ?_
                  refine q_callV X dX13_spot_203 mX13_412 cwX13_trail (c_mTrail GE S I V J N g n hM hn hn12) rfl (by assumption) rfl rfl rfl (Nat.le_of_ble_eq_true rfl) ⟨Nat.le_of_ble_eq_true rfl, Nat.le_of_ble_eq_true rfl⟩ ⟨(by first | omega | decide | (simp only [rmL, rmA]; omega)), (by first | omega | decide | (simp only [rmL, rmA]; omega))⟩ ?_
                  rintro _ _ ⟨rfl, rfl⟩
                  refine r_mmin X dX13_spot_206 mmX13_398 (Nat.le_of_ble_eq_true rfl) (Nat.le_of_ble_eq_true rfl) (by first | omega | decide | (simp only [rmL, rmA]; omega)) (by first | omega | decide | (simp only [rmL, rmA]; omega)) ?_
                  refine r_istore X dX13_spot_209 (by decide) rfl ?_
                  refine r_iload_n X dX13_spot_211 rfl rfl ?_
                  refine r_if_eq (tgt := 220) X dX13_spot_212 (by decide) (fun h212 => ?_) (fun h212 => ?_)
                  · skip
                    refine r_iload X dX13_spot_220 rfl ?_
                    refine r_ireturn X dX13_spot_222 rfl (by first | omega | decide | (simp only [rmL, rmA]; omega)) (by first | omega | decide | (simp only [rmL, rmA]; omega)) ?_
                    refine ⟨?_, rfl⟩
                    rw [hA, mSp, mLow, mHigh]
                    first
                      | (exfalso; omega)
                      | (rw [if_pos h212, if_pos (show 0 < sg by omega)]; done)
                      | (rw [if_pos h212, if_neg (show ¬ 0 < sg by omega)]; done)
                      | (rw [if_neg h212, if_pos (show 0 < sg by omega), if_neg (Int32.not_lt.mpr h119)]; done)
                      | (rw [if_neg h212, if_pos (show 0 < sg by omega), if_pos (Int32.not_le.mp h119)]; done)
                      | (rw [if_neg h212, if_neg (show ¬ 0 < sg by omega), if_neg (Int32.not_lt.mpr h119)]; done)
                      | (rw [if_neg h212, if_neg (show ¬ 0 < sg by omega), if_pos (Int32.not_le.mp h119)]; done)
                  · skip
                    refine r_iload X dX13_spot_215 rfl ?_
                    refine r_goto (tgt := 222) X dX13_spot_217 (by decide) ?_
                    refine r_ireturn X dX13_spot_222 rfl (by first | omega | decide | (simp only [rmL, rmA]; omega)) (by first | omega | decide | (simp only [rmL, rmA]; omega)) ?_
                    refine ⟨?_, rfl⟩
                    rw [hA, mSp, mLow, mHigh]
                    first
                      | (exfalso; omega)
                      | (rw [if_pos h212, if_pos (show 0 < sg by omega)]; done)
                      | (rw [if_pos h212, if_neg (show ¬ 0 < sg by omega)]; done)
                      | (rw [if_neg h212, if_pos (show 0 < sg by omega), if_neg (Int32.not_lt.mpr h119)]; done)
                      | (rw [if_neg h212, if_pos (show 0 < sg by omega), if_pos (Int32.not_le.mp h119)]; done)
                      | (rw [if_neg h212, if_neg (show ¬ 0 < sg by omega), if_neg (Int32.not_lt.mpr h119)]; done)
                      | (rw [if_neg h212, if_neg (show ¬ 0 < sg by omega), if_pos (Int32.not_le.mp h119)]; done)
                · skip
                  refine r_aload X dX13_spot_191 rfl ?_
                  refine r_getR X dX13_spot_193 fX13_388 (by assumption) (by assumption) ?_
                  refine r_iload X dX13_spot_196 rfl ?_
                  refine r_ialdN X dX13_spot_198 (by assumption) (by omega) (by omega) (by first | assumption | rfl) ?_
                  refine r_goto (tgt := 206) X dX13_spot_199 (by decide) ?_
                  refine r_mmin X dX13_spot_206 mmX13_398 (Nat.le_of_ble_eq_true rfl) (Nat.le_of_ble_eq_true rfl) (by first | omega | decide | (simp only [rmL, rmA]; omega)) (by first | omega | decide | (simp only [rmL, rmA]; omega)) ?_
                  refine r_istore X dX13_spot_209 (by decide) rfl ?_
                  refine r_iload_n X dX13_spot_211 rfl rfl ?_
                  refine r_if_eq (tgt := 220) X dX13_spot_212 (by decide) (fun h212 => ?_) (fun h212 => ?_)
                  · skip
                    refine r_iload X dX13_spot_220 rfl ?_
                    refine r_ireturn X dX13_spot_222 rfl (by first | omega | decide | (simp only [rmL, rmA]; omega)) (by first | omega | decide | (simp only [rmL, rmA]; omega)) ?_
                    refine ⟨?_, rfl⟩
                    rw [hA, mSp, mLow, mHigh]
                    first
                      | (exfalso; omega)
                      | (rw [if_pos h212, if_pos (show 0 < sg by omega)]; done)
                      | (rw [if_pos h212, if_neg (show ¬ 0 < sg by omega)]; done)
                      | (rw [if_neg h212, if_pos (show 0 < sg by omega), if_neg (Int32.not_lt.mpr h119)]; done)
                      | (rw [if_neg h212, if_pos (show 0 < sg by omega), if_pos (Int32.not_le.mp h119)]; done)
                      | (rw [if_neg h212, if_neg (show ¬ 0 < sg by omega), if_neg (Int32.not_lt.mpr h119)]; done)
                      | (rw [if_neg h212, if_neg (show ¬ 0 < sg by omega), if_pos (Int32.not_le.mp h119)]; done)
                  · skip
                    refine r_iload X dX13_spot_215 rfl ?_
                    refine r_goto (tgt := 222) X dX13_spot_217 (by decide) ?_
                    refine r_ireturn X dX13_spot_222 rfl (by first | omega | decide | (simp only [rmL, rmA]; omega)) (by first | omega | decide | (simp only [rmL, rmA]; omega)) ?_
                    refine ⟨?_, rfl⟩
                    rw [hA, mSp, mLow, mHigh]
                    first
                      | (exfalso; omega)
                      | (rw [if_pos h212, if_pos (show 0 < sg by omega)]; done)
                      | (rw [if_pos h212, if_neg (show ¬ 0 < sg by omega)]; done)
                      | (rw [if_neg h212, if_pos (show 0 < sg by omega), if_neg (Int32.not_lt.mpr h119)]; done)
                      | (rw [if_neg h212, if_pos (show 0 < sg by omega), if_pos (Int32.not_le.mp h119)]; done)
                      | (rw [if_neg h212, if_neg (show ¬ 0 < sg by omega), if_neg (Int32.not_lt.mpr h119)]; done)
                      | (rw [if_neg h212, if_neg (show ¬ 0 < sg by omega), if_pos (Int32.not_le.mp h119)]; done)
            · skip
              refine r_iconst (v := 0) X dX13_spot_122 (by decide) ?_
              refine r_goto (tgt := 138) X dX13_spot_123 (by decide) ?_
              refine r_istore X dX13_spot_138 (by decide) rfl ?_
              refine r_iload X dX13_spot_140 rfl ?_
              refine r_aload X dX13_spot_142 rfl ?_
              refine r_getI X dX13_spot_144 fX13_385 (by assumption) (by first | assumption | rfl) ?_
              refine r_icmpN_ge (tgt := 179) X dX13_spot_147 (by decide) (by omega) (by omega) (fun h147 => ?_) (fun h147 => ?_)
              · skip
                refine r_iload X dX13_spot_179 rfl ?_
                refine r_iload X dX13_spot_181 rfl ?_
                refine r_aload X dX13_spot_183 rfl ?_
                refine r_getI X dX13_spot_185 fX13_385 (by assumption) (by first | assumption | rfl) ?_
                refine r_icmpN_ge (tgt := 202) X dX13_spot_188 (by decide) (by omega) (by omega) (fun h188 => ?_) (fun h188 => ?_)
                · skip
                  refine r_aload_n X dX13_spot_202 rfl rfl ?_
                  refine q_callV X dX13_spot_203 mX13_412 cwX13_trail (c_mTrail GE S I V J N g n hM hn hn12) rfl (by assumption) rfl rfl rfl (Nat.le_of_ble_eq_true rfl) ⟨Nat.le_of_ble_eq_true rfl, Nat.le_of_ble_eq_true rfl⟩ ⟨(by first | omega | decide | (simp only [rmL, rmA]; omega)), (by first | omega | decide | (simp only [rmL, rmA]; omega))⟩ ?_
                  rintro _ _ ⟨rfl, rfl⟩
                  refine r_mmin X dX13_spot_206 mmX13_398 (Nat.le_of_ble_eq_true rfl) (Nat.le_of_ble_eq_true rfl) (by first | omega | decide | (simp only [rmL, rmA]; omega)) (by first | omega | decide | (simp only [rmL, rmA]; omega)) ?_
                  refine r_istore X dX13_spot_209 (by decide) rfl ?_
                  refine r_iload_n X dX13_spot_211 rfl rfl ?_
                  refine r_if_eq (tgt := 220) X dX13_spot_212 (by decide) (fun h212 => ?_) (fun h212 => ?_)
                  · skip
                    refine r_iload X dX13_spot_220 rfl ?_
                    refine r_ireturn X dX13_spot_222 rfl (by first | omega | decide | (simp only [rmL, rmA]; omega)) (by first | omega | decide | (simp only [rmL, rmA]; omega)) ?_
                    refine ⟨?_, rfl⟩
                    rw [hA, mSp, mLow, mHigh]
                    first
                      | (exfalso; omega)
                      | (rw [if_pos h212, if_pos (show 0 < sg by omega)]; done)
                      | (rw [if_pos h212, if_neg (show ¬ 0 < sg by omega)]; done)
                      | (rw [if_neg h212, if_pos (show 0 < sg by omega), if_neg (Int32.not_lt.mpr h119)]; done)
                      | (rw [if_neg h212, if_pos (show 0 < sg by omega), if_pos (Int32.not_le.mp h119)]; done)
                      | (rw [if_neg h212, if_neg (show ¬ 0 < sg by omega), if_neg (Int32.not_lt.mpr h119)]; done)
                      | (rw [if_neg h212, if_neg (show ¬ 0 < sg by omega), if_pos (Int32.not_le.mp h119)]; done)
                  · skip
                    refine r_iload X dX13_spot_215 rfl ?_
                    refine r_goto (tgt := 222) X dX13_spot_217 (by decide) ?_
                    refine r_ireturn X dX13_spot_222 rfl (by first | omega | decide | (simp only [rmL, rmA]; omega)) (by first | omega | decide | (simp only [rmL, rmA]; omega)) ?_
                    refine ⟨?_, rfl⟩
                    rw [hA, mSp, mLow, mHigh]
                    first
                      | (exfalso; omega)
                      | (rw [if_pos h212, if_pos (show 0 < sg by omega)]; done)
                      | (rw [if_pos h212, if_neg (show ¬ 0 < sg by omega)]; done)
                      | (rw [if_neg h212, if_pos (show 0 < sg by omega), if_neg (Int32.not_lt.mpr h119)]; done)
                      | (rw [if_neg h212, if_pos (show 0 < sg by omega), if_pos (Int32.not_le.mp h119)]; done)
                      | (rw [if_neg h212, if_neg (show ¬ 0 < sg by omega), if_neg (Int32.not_lt.mpr h119)]; done)
                      | (rw [if_neg h212, if_neg (show ¬ 0 < sg by omega), if_pos (Int32.not_le.mp h119)]; done)
                · skip
                  refine r_aload X dX13_spot_191 rfl ?_
                  refine r_getR X dX13_spot_193 fX13_388 (by assumption) (by assumption) ?_
                  refine r_iload X dX13_spot_196 rfl ?_
                  refine r_ialdN X dX13_spot_198 (by assumption) (by omega) (by omega) (by first | assumption | rfl) ?_
                  refine r_goto (tgt := 206) X dX13_spot_199 (by decide) ?_
                  refine r_mmin X dX13_spot_206 mmX13_398 (Nat.le_of_ble_eq_true rfl) (Nat.le_of_ble_eq_true rfl) (by first | omega | decide | (simp only [rmL, rmA]; omega)) (by first | omega | decide | (simp only [rmL, rmA]; omega)) ?_
                  refine r_istore X dX13_spot_209 (by decide) rfl ?_
                  refine r_iload_n X dX13_spot_211 rfl rfl ?_
                  refine r_if_eq (tgt := 220) X dX13_spot_212 (by decide) (fun h212 => ?_) (fun h212 => ?_)
                  · skip
                    refine r_iload X dX13_spot_220 rfl ?_
                    refine r_ireturn X dX13_spot_222 rfl (by first | omega | decide | (simp only [rmL, rmA]; omega)) (by first | omega | decide | (simp only [rmL, rmA]; omega)) ?_
                    refine ⟨?_, rfl⟩
                    rw [hA, mSp, mLow, mHigh]
                    first
                      | (exfalso; omega)
                      | (rw [if_pos h212, if_pos (show 0 < sg by omega)]; done)
                      | (rw [if_pos h212, if_neg (show ¬ 0 < sg by omega)]; done)
                      | (rw [if_neg h212, if_pos (show 0 < sg by omega), if_neg (Int32.not_lt.mpr h119)]; done)
                      | (rw [if_neg h212, if_pos (show 0 < sg by omega), if_pos (Int32.not_le.mp h119)]; done)
                      | (rw [if_neg h212, if_neg (show ¬ 0 < sg by omega), if_neg (Int32.not_lt.mpr h119)]; done)
                      | (rw [if_neg h212, if_neg (show ¬ 0 < sg by omega), if_pos (Int32.not_le.mp h119)]; done)
                  · skip
                    refine r_iload X dX13_spot_215 rfl ?_
                    refine r_goto (tgt := 222) X dX13_spot_217 (by decide) ?_
                    refine r_ireturn X dX13_spot_222 rfl (by first | omega | decide | (simp only [rmL, rmA]; omega)) (by first | omega | decide | (simp only [rmL, rmA]; omega)) ?_
                    refine ⟨?_, rfl⟩
                    rw [hA, mSp, mLow, mHigh]
                    first
                      | (exfalso; omega)
                      | (rw [if_pos h212, if_pos (show 0 < sg by omega)]; done)
                      | (rw [if_pos h212, if_neg (show ¬ 0 < sg by omega)]; done)
                      | (rw [if_neg h212, if_pos (show 0 < sg by omega), if_neg (Int32.not_lt.mpr h119)]; done)
                      | (rw [if_neg h212, if_pos (show 0 < sg by omega), if_pos (Int32.not_le.mp h119)]; done)
                      | (rw [if_neg h212, if_neg (show ¬ 0 < sg by omega), if_neg (Int32.not_lt.mpr h119)]; done)
                      | (rw [if_neg h212, if_neg (show ¬ 0 < sg by omega), if_pos (Int32.not_le.mp h119)]; done)
              · skip
                refine r_iload X dX13_spot_150 rfl ?_
                refine r_aload X dX13_spot_152 rfl ?_
                refine r_getR X dX13_spot_154 fX13_388 (by assumption) (by assumption) ?_
                refine r_iload X dX13_spot_157 rfl ?_
                refine r_ialdN X dX13_spot_159 (by assumption) (by omega) (by omega) (by first | assumption | rfl) ?_
                refine r_bipush (v := 60) X dX13_spot_160 (by decide) ?_
                refine r_aload X dX13_spot_162 rfl ?_
                refine r_getR X dX13_spot_164 fX13_382 (by assumption) (by assumption) ?_
                refine r_iload X dX13_spot_167 rfl ?_
                refine r_ialdN X dX13_spot_169 (by assumption) (by omega) (by omega) (by first | assumption | rfl) ?_
                refine r_iload_n X dX13_spot_170 rfl rfl ?_
                refine r_isub X dX13_spot_171 ?_
                refine r_imul X dX13_spot_172 ?_
                refine r_isub X dX13_spot_173 ?_
                refine r_mmax X dX13_spot_174 mmX13_363 (Nat.le_of_ble_eq_true rfl) (Nat.le_of_ble_eq_true rfl) (by first | omega | decide | (simp only [rmL, rmA]; omega)) (by first | omega | decide | (simp only [rmL, rmA]; omega)) ?_
                refine r_istore X dX13_spot_177 (by decide) rfl ?_
                refine r_iload X dX13_spot_179 rfl ?_
                refine r_iload X dX13_spot_181 rfl ?_
                refine r_aload X dX13_spot_183 rfl ?_
                refine r_getI X dX13_spot_185 fX13_385 (by assumption) (by first | assumption | rfl) ?_
                refine r_icmpN_ge (tgt := 202) X dX13_spot_188 (by decide) (by omega) (by omega) (fun h188 => ?_) (fun h188 => ?_)
                · skip
                  refine r_aload_n X dX13_spot_202 rfl rfl ?_
                  refine q_callV X dX13_spot_203 mX13_412 cwX13_trail (c_mTrail GE S I V J N g n hM hn hn12) rfl (by assumption) rfl rfl rfl (Nat.le_of_ble_eq_true rfl) ⟨Nat.le_of_ble_eq_true rfl, Nat.le_of_ble_eq_true rfl⟩ ⟨(by first | omega | decide | (simp only [rmL, rmA]; omega)), (by first | omega | decide | (simp only [rmL, rmA]; omega))⟩ ?_
                  rintro _ _ ⟨rfl, rfl⟩
                  refine r_mmin X dX13_spot_206 mmX13_398 (Nat.le_of_ble_eq_true rfl) (Nat.le_of_ble_eq_true rfl) (by first | omega | decide | (simp only [rmL, rmA]; omega)) (by first | omega | decide | (simp only [rmL, rmA]; omega)) ?_
                  refine r_istore X dX13_spot_209 (by decide) rfl ?_
                  refine r_iload_n X dX13_spot_211 rfl rfl ?_
                  refine r_if_eq (tgt := 220) X dX13_spot_212 (by decide) (fun h212 => ?_) (fun h212 => ?_)
                  · skip
                    refine r_iload X dX13_spot_220 rfl ?_
                    refine r_ireturn X dX13_spot_222 rfl (by first | omega | decide | (simp only [rmL, rmA]; omega)) (by first | omega | decide | (simp only [rmL, rmA]; omega)) ?_
                    refine ⟨?_, rfl⟩
                    rw [hA, mSp, mLow, mHigh]
                    first
                      | (exfalso; omega)
                      | (rw [if_pos h212, if_pos (show 0 < sg by omega)]; done)
                      | (rw [if_pos h212, if_neg (show ¬ 0 < sg by omega)]; done)
                      | (rw [if_neg h212, if_pos (show 0 < sg by omega), if_neg (Int32.not_lt.mpr h119)]; done)
                      | (rw [if_neg h212, if_pos (show 0 < sg by omega), if_pos (Int32.not_le.mp h119)]; done)
                      | (rw [if_neg h212, if_neg (show ¬ 0 < sg by omega), if_neg (Int32.not_lt.mpr h119)]; done)
                      | (rw [if_neg h212, if_neg (show ¬ 0 < sg by omega), if_pos (Int32.not_le.mp h119)]; done)
                  · skip
                    refine r_iload X dX13_spot_215 rfl ?_
                    refine r_goto (tgt := 222) X dX13_spot_217 (by decide) ?_
                    refine r_ireturn X dX13_spot_222 rfl (by first | omega | decide | (simp only [rmL, rmA]; omega)) (by first | omega | decide | (simp only [rmL, rmA]; omega)) ?_
                    refine ⟨?_, rfl⟩
                    rw [hA, mSp, mLow, mHigh]
                    first
                      | (exfalso; omega)
                      | (rw [if_pos h212, if_pos (show 0 < sg by omega)]; done)
                      | (rw [if_pos h212, if_neg (show ¬ 0 < sg by omega)]; done)
                      | (rw [if_neg h212, if_pos (show 0 < sg by omega), if_neg (Int32.not_lt.mpr h119)]; done)
                      | (rw [if_neg h212, if_pos (show 0 < sg by omega), if_pos (Int32.not_le.mp h119)]; done)
                      | (rw [if_neg h212, if_neg (show ¬ 0 < sg by omega), if_neg (Int32.not_lt.mpr h119)]; done)
                      | (rw [if_neg h212, if_neg (show ¬ 0 < sg by omega), if_pos (Int32.not_le.mp h119)]; done)
                · skip
                  refine r_aload X dX13_spot_191 rfl ?_
                  refine r_getR X dX13_spot_193 fX13_388 (by assumption) (by assumption) ?_
                  refine r_iload X dX13_spot_196 rfl ?_
                  refine r_ialdN X dX13_spot_198 (by assumption) (by omega) (by omega) (by first | assumption | rfl) ?_
                  refine r_goto (tgt := 206) X dX13_spot_199 (by decide) ?_
                  refine r_mmin X dX13_spot_206 mmX13_398 (Nat.le_of_ble_eq_true rfl) (Nat.le_of_ble_eq_true rfl) (by first | omega | decide | (simp only [rmL, rmA]; omega)) (by first | omega | decide | (simp only [rmL, rmA]; omega)) ?_
                  refine r_istore X dX13_spot_209 (by decide) rfl ?_
                  refine r_iload_n X dX13_spot_211 rfl rfl ?_
                  refine r_if_eq (tgt := 220) X dX13_spot_212 (by decide) (fun h212 => ?_) (fun h212 => ?_)
                  · skip
                    refine r_iload X dX13_spot_220 rfl ?_
                    refine r_ireturn X dX13_spot_222 rfl (by first | omega | decide | (simp only [rmL, rmA]; omega)) (by first | omega | decide | (simp only [rmL, rmA]; omega)) ?_
                    refine ⟨?_, rfl⟩
                    rw [hA, mSp, mLow, mHigh]
                    first
                      | (exfalso; omega)
                      | (rw [if_pos h212, if_pos (show 0 < sg by omega)]; done)
                      | (rw [if_pos h212, if_neg (show ¬ 0 < sg by omega)]; done)
                      | (rw [if_neg h212, if_pos (show 0 < sg by omega), if_neg (Int32.not_lt.mpr h119)]; done)
                      | (rw [if_neg h212, if_pos (show 0 < sg by omega), if_pos (Int32.not_le.mp h119)]; done)
                      | (rw [if_neg h212, if_neg (show ¬ 0 < sg by omega), if_neg (Int32.not_lt.mpr h119)]; done)
                      | (rw [if_neg h212, if_neg (show ¬ 0 < sg by omega), if_pos (Int32.not_le.mp h119)]; done)
                  · skip
                    refine r_iload X dX13_spot_215 rfl ?_
                    refine r_goto (tgt := 222) X dX13_spot_217 (by decide) ?_
                    refine r_ireturn X dX13_spot_222 rfl (by first | omega | decide | (simp only [rmL, rmA]; omega)) (by first | omega | decide | (simp only [rmL, rmA]; omega)) ?_
                    refine ⟨?_, rfl⟩
                    rw [hA, mSp, mLow, mHigh]
                    first
                      | (exfalso; omega)
                      | (rw [if_pos h212, if_pos (show 0 < sg by omega)]; done)
                      | (rw [if_pos h212, if_neg (show ¬ 0 < sg by omega)]; done)
                      | (rw [if_neg h212, if_pos (show 0 < sg by omega), if_neg (Int32.not_lt.mpr h119)]; done)
                      | (rw [if_neg h212, if_pos (show 0 < sg by omega), if_pos (Int32.not_le.mp h119)]; done)
                      | (rw [if_neg h212, if_neg (show ¬ 0 < sg by omega), if_neg (Int32.not_lt.mpr h119)]; done)
                      | (rw [if_neg h212, if_neg (show ¬ 0 < sg by omega), if_pos (Int32.not_le.mp h119)]; done)
          · skip
            exact absurd (by decide : nI 0 ≤ 0) h89
        · skip
          exact absurd (by decide : nI 0 ≤ 0) h68
      · skip
        refine r_iload X dX13_spot_66 rfl ?_
        refine r_if_le (tgt := 84) X dX13_spot_68 (by decide) (fun h68 => ?_) (fun h68 => ?_)
        · skip
          exact absurd h68 (nI_nle (by omega) (by omega))
        · skip
          refine r_aload X dX13_spot_71 rfl ?_
          refine r_getR X dX13_spot_73 fX13_388 (by assumption) (by assumption) ?_
          refine r_iload X dX13_spot_76 rfl ?_
          refine r_iconst (v := 1) X dX13_spot_78 (by decide) ?_
          refine r_isub X dX13_spot_79 ?_
          refine r_topi (nI q) (pk_sub (a := q + 1) (b := 1) (by omega)) ?_
          refine r_ialdN X dX13_spot_80 (by assumption) (by omega) (by omega) (by first | assumption | rfl) ?_
          refine r_goto (tgt := 85) X dX13_spot_81 (by decide) ?_
          refine r_istore X dX13_spot_85 (by decide) rfl ?_
          refine r_iload X dX13_spot_87 rfl ?_
          refine r_if_le (tgt := 113) X dX13_spot_89 (by decide) (fun h89 => ?_) (fun h89 => ?_)
          · skip
            exact absurd h89 (nI_nle (by omega) (by omega))
          · skip
            refine r_iload X dX13_spot_92 rfl ?_
            refine r_bipush (v := 60) X dX13_spot_94 (by decide) ?_
            refine r_iload_n X dX13_spot_96 rfl rfl ?_
            refine r_aload X dX13_spot_97 rfl ?_
            refine r_getR X dX13_spot_99 fX13_382 (by assumption) (by assumption) ?_
            refine r_iload X dX13_spot_102 rfl ?_
            refine r_iconst (v := 1) X dX13_spot_104 (by decide) ?_
            refine r_isub X dX13_spot_105 ?_
            refine r_topi (nI q) (pk_sub (a := q + 1) (b := 1) (by omega)) ?_
            refine r_ialdN X dX13_spot_106 (by assumption) (by omega) (by omega) (by first | assumption | rfl) ?_
            refine r_isub X dX13_spot_107 ?_
            refine r_imul X dX13_spot_108 ?_
            refine r_iadd X dX13_spot_109 ?_
            refine r_goto (tgt := 138) X dX13_spot_110 (by decide) ?_
            refine r_istore X dX13_spot_138 (by decide) rfl ?_
            refine r_iload X dX13_spot_140 rfl ?_
            refine r_aload X dX13_spot_142 rfl ?_
            refine r_getI X dX13_spot_144 fX13_385 (by assumption) (by first | assumption | rfl) ?_
            refine r_icmpN_ge (tgt := 179) X dX13_spot_147 (by decide) (by omega) (by omega) (fun h147 => ?_) (fun h147 => ?_)
            · skip
              refine r_iload X dX13_spot_179 rfl ?_
              refine r_iload X dX13_spot_181 rfl ?_
              refine r_aload X dX13_spot_183 rfl ?_
              refine r_getI X dX13_spot_185 fX13_385 (by assumption) (by first | assumption | rfl) ?_
              refine r_icmpN_ge (tgt := 202) X dX13_spot_188 (by decide) (by omega) (by omega) (fun h188 => ?_) (fun h188 => ?_)
              · skip
                refine r_aload_n X dX13_spot_202 rfl rfl ?_
                refine q_callV X dX13_spot_203 mX13_412 cwX13_trail (c_mTrail GE S I V J N g n hM hn hn12) rfl (by assumption) rfl rfl rfl (Nat.le_of_ble_eq_true rfl) ⟨Nat.le_of_ble_eq_true rfl, Nat.le_of_ble_eq_true rfl⟩ ⟨(by first | omega | decide | (simp only [rmL, rmA]; omega)), (by first | omega | decide | (simp only [rmL, rmA]; omega))⟩ ?_
                rintro _ _ ⟨rfl, rfl⟩
                refine r_mmin X dX13_spot_206 mmX13_398 (Nat.le_of_ble_eq_true rfl) (Nat.le_of_ble_eq_true rfl) (by first | omega | decide | (simp only [rmL, rmA]; omega)) (by first | omega | decide | (simp only [rmL, rmA]; omega)) ?_
                refine r_istore X dX13_spot_209 (by decide) rfl ?_
                refine r_iload_n X dX13_spot_211 rfl rfl ?_
                refine r_if_eq (tgt := 220) X dX13_spot_212 (by decide) (fun h212 => ?_) (fun h212 => ?_)
                · skip
                  refine r_iload X dX13_spot_220 rfl ?_
                  refine r_ireturn X dX13_spot_222 rfl (by first | omega | decide | (simp only [rmL, rmA]; omega)) (by first | omega | decide | (simp only [rmL, rmA]; omega)) ?_
                  refine ⟨?_, rfl⟩
                  rw [hA, mSp, mLow, mHigh]
                  first
                    | (exfalso; omega)
                    | (rw [if_pos h212, if_pos (show q + 1 < sg by omega)]; done)
                    | (rw [if_pos h212, if_neg (show ¬ q + 1 < sg by omega)]; done)
                    | (rw [if_neg h212, if_pos (show q + 1 < sg by omega)]; done)
                    | (rw [if_neg h212, if_neg (show ¬ q + 1 < sg by omega)]; done)
                · skip
                  refine r_iload X dX13_spot_215 rfl ?_
                  refine r_goto (tgt := 222) X dX13_spot_217 (by decide) ?_
                  refine r_ireturn X dX13_spot_222 rfl (by first | omega | decide | (simp only [rmL, rmA]; omega)) (by first | omega | decide | (simp only [rmL, rmA]; omega)) ?_
                  refine ⟨?_, rfl⟩
                  rw [hA, mSp, mLow, mHigh]
                  first
                    | (exfalso; omega)
                    | (rw [if_pos h212, if_pos (show q + 1 < sg by omega)]; done)
                    | (rw [if_pos h212, if_neg (show ¬ q + 1 < sg by omega)]; done)
                    | (rw [if_neg h212, if_pos (show q + 1 < sg by omega)]; done)
                    | (rw [if_neg h212, if_neg (show ¬ q + 1 < sg by omega)]; done)
              · skip
                refine r_aload X dX13_spot_191 rfl ?_
                refine r_getR X dX13_spot_193 fX13_388 (by assumption) (by assumption) ?_
                refine r_iload X dX13_spot_196 rfl ?_
                refine r_ialdN X dX13_spot_198 (by assumption) (by omega) (by omega) (by first | assumption | rfl) ?_
                refine r_goto (tgt := 206) X dX13_spot_199 (by decide) ?_
                refine r_mmin X dX13_spot_206 mmX13_398 (Nat.le_of_ble_eq_true rfl) (Nat.le_of_ble_eq_true rfl) (by first | omega | decide | (simp only [rmL, rmA]; omega)) (by first | omega | decide | (simp only [rmL, rmA]; omega)) ?_
                refine r_istore X dX13_spot_209 (by decide) rfl ?_
                refine r_iload_n X dX13_spot_211 rfl rfl ?_
                refine r_if_eq (tgt := 220) X dX13_spot_212 (by decide) (fun h212 => ?_) (fun h212 => ?_)
                · skip
                  refine r_iload X dX13_spot_220 rfl ?_
                  refine r_ireturn X dX13_spot_222 rfl (by first | omega | decide | (simp only [rmL, rmA]; omega)) (by first | omega | decide | (simp only [rmL, rmA]; omega)) ?_
                  refine ⟨?_, rfl⟩
                  rw [hA, mSp, mLow, mHigh]
                  first
                    | (exfalso; omega)
                    | (rw [if_pos h212, if_pos (show q + 1 < sg by omega)]; done)
                    | (rw [if_pos h212, if_neg (show ¬ q + 1 < sg by omega)]; done)
                    | (rw [if_neg h212, if_pos (show q + 1 < sg by omega)]; done)
                    | (rw [if_neg h212, if_neg (show ¬ q + 1 < sg by omega)]; done)
                · skip
                  refine r_iload X dX13_spot_215 rfl ?_
                  refine r_goto (tgt := 222) X dX13_spot_217 (by decide) ?_
                  refine r_ireturn X dX13_spot_222 rfl (by first | omega | decide | (simp only [rmL, rmA]; omega)) (by first | omega | decide | (simp only [rmL, rmA]; omega)) ?_
                  refine ⟨?_, rfl⟩
                  rw [hA, mSp, mLow, mHigh]
                  first
                    | (exfalso; omega)
                    | (rw [if_pos h212, if_pos (show q + 1 < sg by omega)]; done)
                    | (rw [if_pos h212, if_neg (show ¬ q + 1 < sg by omega)]; done)
                    | (rw [if_neg h212, if_pos (show q + 1 < sg by omega)]; done)
                    | (rw [if_neg h212, if_neg (show ¬ q + 1 < sg by omega)]; done)
            · skip
              refine r_iload X dX13_spot_150 rfl ?_
              refine r_aload X dX13_spot_152 rfl ?_
              refine r_getR X dX13_spot_154 fX13_388 (by assumption) (by assumption) ?_
              refine r_iload X dX13_spot_157 rfl ?_
              refine r_ialdN X dX13_spot_159 (by assumption) (by omega) (by omega) (by first | assumption | rfl) ?_
              refine r_bipush (v := 60) X dX13_spot_160 (by decide) ?_
              refine r_aload X dX13_spot_162 rfl ?_
              refine r_getR X dX13_spot_164 fX13_382 (by assumption) (by assumption) ?_
              refine r_iload X dX13_spot_167 rfl ?_
              refine r_ialdN X dX13_spot_169 (by assumption) (by omega) (by omega) (by first | assumption | rfl) ?_
              refine r_iload_n X dX13_spot_170 rfl rfl ?_
              refine r_isub X dX13_spot_171 ?_
              refine r_imul X dX13_spot_172 ?_
              refine r_isub X dX13_spot_173 ?_
              refine r_mmax X dX13_spot_174 mmX13_363 (Nat.le_of_ble_eq_true rfl) (Nat.le_of_ble_eq_true rfl) (by first | omega | decide | (simp only [rmL, rmA]; omega)) (by first | omega | decide | (simp only [rmL, rmA]; omega)) ?_
              refine r_istore X dX13_spot_177 (by decide) rfl ?_
              refine r_iload X dX13_spot_179 rfl ?_
              refine r_iload X dX13_spot_181 rfl ?_
              refine r_aload X dX13_spot_183 rfl ?_
              refine r_getI X dX13_spot_185 fX13_385 (by assumption) (by first | assumption | rfl) ?_
              refine r_icmpN_ge (tgt := 202) X dX13_spot_188 (by decide) (by omega) (by omega) (fun h188 => ?_) (fun h188 => ?_)
              · skip
                refine r_aload_n X dX13_spot_202 rfl rfl ?_
                refine q_callV X dX13_spot_203 mX13_412 cwX13_trail (c_mTrail GE S I V J N g n hM hn hn12) rfl (by assumption) rfl rfl rfl (Nat.le_of_ble_eq_true rfl) ⟨Nat.le_of_ble_eq_true rfl, Nat.le_of_ble_eq_true rfl⟩ ⟨(by first | omega | decide | (simp only [rmL, rmA]; omega)), (by first | omega | decide | (simp only [rmL, rmA]; omega))⟩ ?_
                rintro _ _ ⟨rfl, rfl⟩
                refine r_mmin X dX13_spot_206 mmX13_398 (Nat.le_of_ble_eq_true rfl) (Nat.le_of_ble_eq_true rfl) (by first | omega | decide | (simp only [rmL, rmA]; omega)) (by first | omega | decide | (simp only [rmL, rmA]; omega)) ?_
                refine r_istore X dX13_spot_209 (by decide) rfl ?_
                refine r_iload_n X dX13_spot_211 rfl rfl ?_
                refine r_if_eq (tgt := 220) X dX13_spot_212 (by decide) (fun h212 => ?_) (fun h212 => ?_)
                · skip
                  refine r_iload X dX13_spot_220 rfl ?_
                  refine r_ireturn X dX13_spot_222 rfl (by first | omega | decide | (simp only [rmL, rmA]; omega)) (by first | omega | decide | (simp only [rmL, rmA]; omega)) ?_
                  refine ⟨?_, rfl⟩
                  rw [hA, mSp, mLow, mHigh]
                  first
                    | (exfalso; omega)
                    | (rw [if_pos h212, if_pos (show q + 1 < sg by omega)]; done)
                    | (rw [if_pos h212, if_neg (show ¬ q + 1 < sg by omega)]; done)
                    | (rw [if_neg h212, if_pos (show q + 1 < sg by omega)]; done)
                    | (rw [if_neg h212, if_neg (show ¬ q + 1 < sg by omega)]; done)
                · skip
                  refine r_iload X dX13_spot_215 rfl ?_
                  refine r_goto (tgt := 222) X dX13_spot_217 (by decide) ?_
                  refine r_ireturn X dX13_spot_222 rfl (by first | omega | decide | (simp only [rmL, rmA]; omega)) (by first | omega | decide | (simp only [rmL, rmA]; omega)) ?_
                  refine ⟨?_, rfl⟩
                  rw [hA, mSp, mLow, mHigh]
                  first
                    | (exfalso; omega)
                    | (rw [if_pos h212, if_pos (show q + 1 < sg by omega)]; done)
                    | (rw [if_pos h212, if_neg (show ¬ q + 1 < sg by omega)]; done)
                    | (rw [if_neg h212, if_pos (show q + 1 < sg by omega)]; done)
                    | (rw [if_neg h212, if_neg (show ¬ q + 1 < sg by omega)]; done)
              · skip
                refine r_aload X dX13_spot_191 rfl ?_
                refine r_getR X dX13_spot_193 fX13_388 (by assumption) (by assumption) ?_
                refine r_iload X dX13_spot_196 rfl ?_
                refine r_ialdN X dX13_spot_198 (by assumption) (by omega) (by omega) (by first | assumption | rfl) ?_
                refine r_goto (tgt := 206) X dX13_spot_199 (by decide) ?_
                refine r_mmin X dX13_spot_206 mmX13_398 (Nat.le_of_ble_eq_true rfl) (Nat.le_of_ble_eq_true rfl) (by first | omega | decide | (simp only [rmL, rmA]; omega)) (by first | omega | decide | (simp only [rmL, rmA]; omega)) ?_
                refine r_istore X dX13_spot_209 (by decide) rfl ?_
                refine r_iload_n X dX13_spot_211 rfl rfl ?_
                refine r_if_eq (tgt := 220) X dX13_spot_212 (by decide) (fun h212 => ?_) (fun h212 => ?_)
                · skip
                  refine r_iload X dX13_spot_220 rfl ?_
                  refine r_ireturn X dX13_spot_222 rfl (by first | omega | decide | (simp only [rmL, rmA]; omega)) (by first | omega | decide | (simp only [rmL, rmA]; omega)) ?_
                  refine ⟨?_, rfl⟩
                  rw [hA, mSp, mLow, mHigh]
                  first
                    | (exfalso; omega)
                    | (rw [if_pos h212, if_pos (show q + 1 < sg by omega)]; done)
                    | (rw [if_pos h212, if_neg (show ¬ q + 1 < sg by omega)]; done)
                    | (rw [if_neg h212, if_pos (show q + 1 < sg by omega)]; done)
                    | (rw [if_neg h212, if_neg (show ¬ q + 1 < sg by omega)]; done)
                · skip
                  refine r_iload X dX13_spot_215 rfl ?_
                  refine r_goto (tgt := 222) X dX13_spot_217 (by decide) ?_
                  refine r_ireturn X dX13_spot_222 rfl (by first | omega | decide | (simp only [rmL, rmA]; omega)) (by first | omega | decide | (simp only [rmL, rmA]; omega)) ?_
                  refine ⟨?_, rfl⟩
                  rw [hA, mSp, mLow, mHigh]
                  first
                    | (exfalso; omega)
                    | (rw [if_pos h212, if_pos (show q + 1 < sg by omega)]; done)
                    | (rw [if_pos h212, if_neg (show ¬ q + 1 < sg by omega)]; done)
                    | (rw [if_neg h212, if_pos (show q + 1 < sg by omega)]; done)
                    | (rw [if_neg h212, if_neg (show ¬ q + 1 < sg by omega)]; done)
    have H : 0 ≤ s ∧ s < I g 6 → ∀ j, j ≤ sg → (∀ q, q < j → (decide (s < I (t + 6) q)) = false) → G E M 0 0 (qQ E M (rmL 1) (fun v w' => v = some (.int a) ∧ w' = (S, I, V, J, N))) 38 [some (.ref g), some (.int (nI i)), some (.int s), some (.int b), some (.ref t), some (.int (nI j)), none, none] [] (S, I, V, J, N) := by
      intro hz
      refine loopN sg (fun j hj ih => ?_)
      intro hno
      refine r_iload X dX13_spot_38 rfl ?_
      refine r_aload X dX13_spot_40 rfl ?_
      refine r_getI X dX13_spot_42 fX13_385 (by assumption) (by first | assumption | rfl) ?_
      refine r_icmpN_ge (tgt := 66) X dX13_spot_45 (by decide) (by omega) (by omega) (fun h45 => ?_) (fun h45 => ?_)
      · skip
        have ePj : P = j := by
          rw [← hP, mPast]
          first
            | (rw [fst1_none (fun q hq => hno q (by omega))]; show sg = j; omega)
            | (rw [fst1_some (decide_eq_true h57) hno (by omega)]; rfl)
        rw [← ePj]
        exact e66 hz
      · skip
        refine r_aload X dX13_spot_48 rfl ?_
        refine r_getR X dX13_spot_50 fX13_382 (by assumption) (by assumption) ?_
        refine r_iload X dX13_spot_53 rfl ?_
        refine r_ialdN X dX13_spot_55 (by assumption) (by omega) (by omega) (by first | assumption | rfl) ?_
        refine r_iload_n X dX13_spot_56 rfl rfl ?_
        refine r_icmp_gt (tgt := 66) X dX13_spot_57 (by decide) (fun h57 => ?_) (fun h57 => ?_)
        · skip
          have ePj : P = j := by
            rw [← hP, mPast]
            first
              | (rw [fst1_none (fun q hq => hno q (by omega))]; show sg = j; omega)
              | (rw [fst1_some (decide_eq_true h57) hno (by omega)]; rfl)
          rw [← ePj]
          exact e66 hz
        · skip
          first | refine r_iincN X dX13_spot_60 rfl (by decide) rfl ?_ | refine r_iinc X dX13_spot_60 rfl rfl (by decide) rfl ?_
          refine r_goto (tgt := 38) X dX13_spot_63 (by decide) ?_
          refine ih (by omega) (fun q hq => ?_)
          rcases Nat.lt_or_ge q j with z | z
          · exact hno q z
          · obtain rfl : q = j := by omega
            exact decide_eq_false h57
    refine r_aload_n X dX13_spot_0 rfl rfl ?_
    refine r_iconst (v := 0) X dX13_spot_1 (by decide) ?_
    refine r_putI X dX13_spot_2 fX13_1 wX13_1 (by assumption) rfl rfl ?_
    refine r_world (w' := (S, I, V, J, N)) (by rw [up2_id I h0]) ?_
    refine r_aload_n X dX13_spot_5 rfl rfl ?_
    refine r_iload_n X dX13_spot_6 rfl rfl ?_
    refine q_callV X dX13_spot_7 mX13_286 cwX13_isTeam (c_mIsTeam GE S I V J N g c _ hs0 hc) rfl (by assumption) rfl rfl rfl (Nat.le_of_ble_eq_true rfl) ⟨Nat.le_of_ble_eq_true rfl, Nat.le_of_ble_eq_true rfl⟩ ⟨(by first | omega | decide | (simp only [rmL, rmA]; omega)), (by first | omega | decide | (simp only [rmL, rmA]; omega))⟩ ?_
    rintro _ _ ⟨rfl, rfl⟩
    refine r_if_eq (tgt := 25) X dX13_spot_10 (by decide) (fun h10 => ?_) (fun h10 => ?_)
    · skip
      exact (ix_t hx h10).elim
    · skip
      refine r_iload_n X dX13_spot_13 rfl rfl ?_
      refine r_if_lt (tgt := 25) X dX13_spot_14 (by decide) (fun h14 => ?_) (fun h14 => ?_)
      · skip
        refine r_iconst (v := -1) X dX13_spot_25 (by decide) ?_
        refine r_ireturn X dX13_spot_26 rfl (by first | omega | decide | (simp only [rmL, rmA]; omega)) (by first | omega | decide | (simp only [rmL, rmA]; omega)) ?_
        refine ⟨?_, rfl⟩
        first | (rw [hB (fun z => absurd h14 (Int32.not_lt.mpr z.1))]; done) | (rw [hB (fun z => h22 z.2)]; done)
      · skip
        refine r_iload_n X dX13_spot_17 rfl rfl ?_
        refine r_aload_n X dX13_spot_18 rfl rfl ?_
        refine r_getI X dX13_spot_19 fX13_100 (by assumption) (by first | assumption | rfl) ?_
        refine r_icmp_lt (tgt := 27) X dX13_spot_22 (by decide) (fun h22 => ?_) (fun h22 => ?_)
        · skip
          refine r_aload_n X dX13_spot_27 rfl rfl ?_
          refine r_getR X dX13_spot_28 fX13_34 (by assumption) (by assumption) ?_
          refine r_iload_n X dX13_spot_31 rfl rfl ?_
          refine r_aaldN X dX13_spot_32 (by assumption) (by decide) rfl (by omega) (by omega) (by assumption) ?_
          refine r_astore X dX13_spot_33 (by decide) rfl ?_
          refine r_iconst (v := nI 0) X dX13_spot_35 (by decide) ?_
          refine r_istore X dX13_spot_36 (by decide) rfl ?_
          exact H ⟨Int32.not_lt.mp h14, h22⟩ 0 (by omega) (fun q hq => absurd hq (by omega))
        · skip
          refine r_iconst (v := -1) X dX13_spot_25 (by decide) ?_
          refine r_ireturn X dX13_spot_26 rfl (by first | omega | decide | (simp only [rmL, rmA]; omega)) (by first | omega | decide | (simp only [rmL, rmA]; omega)) ?_
          refine ⟨?_, rfl⟩
          first | (rw [hB (fun z => absurd h14 (Int32.not_lt.mpr z.1))]; done) | (rw [hB (fun z => h22 z.2)]; done)
