/-! ===== the reference: its asks ===== -/
def mSigns (I : Mem) (g c : Nat) (x : Int32) : Int32 := match ixI x c with
  | none => -1
  | some i => I (mt g i) 11
set_option maxHeartbeats 2000000 in
set_option maxRecDepth 20000 in
/-- SledHouseModel.signs -/
theorem c_mSigns {E : Ev} (GE : Glob E) (S : Nat → Option (Nat × Nat)) (I : Nat → Nat → Int32) (V : Nat → Nat → Option Nat) (J : Nat → Nat → Int64) (N : Nat) (g c : Nat) (x : Int32) (hM : MdSh S V g) (h0 : I g 0 = 0) (hc : I g 5 = nI c) (hc6 : c ≤ 6) : Ct E yX13_signs cX13_signs 2 (some .int) (rmL 1) [.ref g, .int x] (S, I, V, J, N) (fun v w' => v = some (.int (mSigns I g c x)) ∧ w' = (S, I, V, J, N)) := by
  refine Ct.start GE (by decide) rfl (Nat.le_of_ble_eq_true rfl) (fun M X => ?_)
  have X : Cx E M RX13 cX13_signs 2 (rmL 1) (some .int) "signs" := X
  refine r_loc (L' := [some (.ref g), some (.int x)]) rfl ?_
  obtain ⟨hs0, v8, v9, v10, v11, v16, v17, v18, v19, v20, s1, s2, s3, s4, s5, s6, s7, s8, hOt, hTe, hKt⟩ := id hM
  rcases hx : ixI x c with _ | i
  · skip
    refine r_aload_n X dX13_signs_0 rfl rfl ?_
    refine r_iconst (v := 0) X dX13_signs_1 (by decide) ?_
    refine r_putI X dX13_signs_2 fX13_1 wX13_1 (by assumption) rfl rfl ?_
    refine r_world (w' := (S, I, V, J, N)) (by rw [up2_id I h0]) ?_
    refine r_aload_n X dX13_signs_5 rfl rfl ?_
    refine r_iload_n X dX13_signs_6 rfl rfl ?_
    refine q_callV X dX13_signs_7 mX13_286 cwX13_isTeam (c_mIsTeam GE S I V J N g c x hs0 hc) rfl (by assumption) rfl rfl rfl (Nat.le_of_ble_eq_true rfl) ⟨Nat.le_of_ble_eq_true rfl, Nat.le_of_ble_eq_true rfl⟩ ⟨(by first | omega | decide | (simp only [rmL, rmA]; omega)), (by first | omega | decide | (simp only [rmL, rmA]; omega))⟩ ?_
    rintro _ _ ⟨rfl, rfl⟩
    refine r_if_eq (tgt := 25) X dX13_signs_10 (by decide) (fun h10 => ?_) (fun h10 => ?_)
    · skip
      refine r_iconst (v := -1) X dX13_signs_25 (by decide) ?_
      refine r_ireturn X dX13_signs_26 rfl (by first | omega | decide | (simp only [rmL, rmA]; omega)) (by first | omega | decide | (simp only [rmL, rmA]; omega)) ?_
      exact ⟨by simp [mSigns, hx], rfl⟩
    · skip
      exact (ix_f hx h10).elim
  · skip
    obtain ⟨hi, rfl⟩ := ixI_some (by omega) hx
    have te1 := (hTe i (by omega)).1
    have hT := (hTe i (by omega)).2
    obtain ⟨ts0, u15, u16, u17, u18, u19, u20, u21, u22, u23, w1, w2, w3, w4, w5, w6, w7, w8, w9⟩ := id hT
    refine r_aload_n X dX13_signs_0 rfl rfl ?_
    refine r_iconst (v := 0) X dX13_signs_1 (by decide) ?_
    refine r_putI X dX13_signs_2 fX13_1 wX13_1 (by assumption) rfl rfl ?_
    refine r_world (w' := (S, I, V, J, N)) (by rw [up2_id I h0]) ?_
    refine r_aload_n X dX13_signs_5 rfl rfl ?_
    refine r_iload_n X dX13_signs_6 rfl rfl ?_
    refine q_callV X dX13_signs_7 mX13_286 cwX13_isTeam (c_mIsTeam GE S I V J N g c _ hs0 hc) rfl (by assumption) rfl rfl rfl (Nat.le_of_ble_eq_true rfl) ⟨Nat.le_of_ble_eq_true rfl, Nat.le_of_ble_eq_true rfl⟩ ⟨(by first | omega | decide | (simp only [rmL, rmA]; omega)), (by first | omega | decide | (simp only [rmL, rmA]; omega))⟩ ?_
    rintro _ _ ⟨rfl, rfl⟩
    refine r_if_eq (tgt := 25) X dX13_signs_10 (by decide) (fun h10 => ?_) (fun h10 => ?_)
    · skip
      exact (ix_t hx h10).elim
    · skip
      refine r_aload_n X dX13_signs_13 rfl rfl ?_
      refine r_getR X dX13_signs_14 fX13_34 (by assumption) (by assumption) ?_
      refine r_iload_n X dX13_signs_17 rfl rfl ?_
      refine r_aaldN X dX13_signs_18 (by assumption) (by decide) rfl (by omega) (by omega) (by assumption) ?_
      refine r_getI X dX13_signs_19 fX13_385 (by assumption) (by first | assumption | rfl) ?_
      refine r_goto (tgt := 26) X dX13_signs_22 (by decide) ?_
      refine r_ireturn X dX13_signs_26 rfl (by first | omega | decide | (simp only [rmL, rmA]; omega)) (by first | omega | decide | (simp only [rmL, rmA]; omega)) ?_
      exact ⟨by simp [mSigns, hx], rfl⟩
def mtAbout (I : Mem) (g t m l : Nat) (y : Int32) : Int32 :=
  if y = 0 then I t 5 else if y = 1 then I t 6 else if y = 2 then I t 7 else if y = 3 then mWay I g t l else if y = 4 then mOf I t 0 m else if y = 5 then mOf I t 1 m else if y = 6 then mOf I t 2 m else if y = 7 then I t 1 else if y = 8 then I t 2 else if y = 9 then I t 8 else if y = 10 then I t 9 else if y = 11 then I t 4 else if y = 12 then I t 3 else -1
def mLn (I : Mem) (t : Nat) : Nat := (I t 6).toNatClampNeg
def mD (I : Mem) (t : Nat) : Nat := (I t 0).toNatClampNeg
/-- a team of the reference has its numbers -/
def MtOK (I : Mem) (t : Nat) : Prop := I t 6 = nI (mLn I t) ∧ mLn I t ≤ 12 ∧ I t 0 = nI (mD I t) ∧ mD I t ≤ 16
def mAbout (I : Mem) (g c : Nat) (x y : Int32) : Int32 := match ixI x c with
  | none => -1
  | some i => mtAbout I g (mt g i) (mD I (mt g i)) (mLn I (mt g i)) y
set_option maxHeartbeats 2000000 in
set_option maxRecDepth 20000 in
/-- SledHouseModel.about -/
theorem c_mAbout {E : Ev} (GE : Glob E) (S : Nat → Option (Nat × Nat)) (I : Nat → Nat → Int32) (V : Nat → Nat → Option Nat) (J : Nat → Nat → Int64) (N : Nat) (g c : Nat) (x y : Int32) (hM : MdSh S V g) (h0 : I g 0 = 0) (hc : I g 5 = nI c) (hc6 : c ≤ 6) (hl : ∀ i, i < c → MtOK I (mt g i)) : Ct E yX13_about cX13_about 4 (some .int) (rmL 1) [.ref g, .int x, .int y] (S, I, V, J, N) (fun v w' => v = some (.int (mAbout I g c x y)) ∧ w' = (S, I, V, J, N)) := by
  refine Ct.start GE (by decide) rfl (Nat.le_of_ble_eq_true rfl) (fun M X => ?_)
  have X : Cx E M RX13 cX13_about 4 (rmL 1) (some .int) "about" := X
  refine r_loc (L' := [some (.ref g), some (.int x), some (.int y), none]) rfl ?_
  obtain ⟨hs0, v8, v9, v10, v11, v16, v17, v18, v19, v20, s1, s2, s3, s4, s5, s6, s7, s8, hOt, hTe, hKt⟩ := id hM
  rcases hx : ixI x c with _ | i
  · skip
    refine r_aload_n X dX13_about_0 rfl rfl ?_
    refine r_iconst (v := 0) X dX13_about_1 (by decide) ?_
    refine r_putI X dX13_about_2 fX13_1 wX13_1 (by assumption) rfl rfl ?_
    refine r_world (w' := (S, I, V, J, N)) (by rw [up2_id I h0]) ?_
    refine r_aload_n X dX13_about_5 rfl rfl ?_
    refine r_iload_n X dX13_about_6 rfl rfl ?_
    refine q_callV X dX13_about_7 mX13_286 cwX13_isTeam (c_mIsTeam GE S I V J N g c x hs0 hc) rfl (by assumption) rfl rfl rfl (Nat.le_of_ble_eq_true rfl) ⟨Nat.le_of_ble_eq_true rfl, Nat.le_of_ble_eq_true rfl⟩ ⟨(by first | omega | decide | (simp only [rmL, rmA]; omega)), (by first | omega | decide | (simp only [rmL, rmA]; omega))⟩ ?_
    rintro _ _ ⟨rfl, rfl⟩
    refine r_if_ne (tgt := 15) X dX13_about_10 (by decide) (fun h10 => ?_) (fun h10 => ?_)
    · skip
      exact (ix_f hx h10).elim
    · skip
      refine r_iconst (v := -1) X dX13_about_13 (by decide) ?_
      refine r_ireturn X dX13_about_14 rfl (by first | omega | decide | (simp only [rmL, rmA]; omega)) (by first | omega | decide | (simp only [rmL, rmA]; omega)) ?_
      exact ⟨by simp [mAbout, hx], rfl⟩
  · skip
    obtain ⟨hi, rfl⟩ := ixI_some (by omega) hx
    have te1 := (hTe i (by omega)).1
    have hT := (hTe i (by omega)).2
    obtain ⟨ts0, u15, u16, u17, u18, u19, u20, u21, u22, u23, w1, w2, w3, w4, w5, w6, w7, w8, w9⟩ := id hT
    obtain ⟨hl1, hl2, hl3, hl4⟩ := hl i hi
    refine r_aload_n X dX13_about_0 rfl rfl ?_
    refine r_iconst (v := 0) X dX13_about_1 (by decide) ?_
    refine r_putI X dX13_about_2 fX13_1 wX13_1 (by assumption) rfl rfl ?_
    refine r_world (w' := (S, I, V, J, N)) (by rw [up2_id I h0]) ?_
    refine r_aload_n X dX13_about_5 rfl rfl ?_
    refine r_iload_n X dX13_about_6 rfl rfl ?_
    refine q_callV X dX13_about_7 mX13_286 cwX13_isTeam (c_mIsTeam GE S I V J N g c _ hs0 hc) rfl (by assumption) rfl rfl rfl (Nat.le_of_ble_eq_true rfl) ⟨Nat.le_of_ble_eq_true rfl, Nat.le_of_ble_eq_true rfl⟩ ⟨(by first | omega | decide | (simp only [rmL, rmA]; omega)), (by first | omega | decide | (simp only [rmL, rmA]; omega))⟩ ?_
    rintro _ _ ⟨rfl, rfl⟩
    refine r_if_ne (tgt := 15) X dX13_about_10 (by decide) (fun h10 => ?_) (fun h10 => ?_)
    · skip
      refine r_aload_n X dX13_about_15 rfl rfl ?_
      refine r_getR X dX13_about_16 fX13_34 (by assumption) (by assumption) ?_
      refine r_iload_n X dX13_about_19 rfl rfl ?_
      refine r_aaldN X dX13_about_20 (by assumption) (by decide) rfl (by omega) (by omega) (by assumption) ?_
      refine r_astore_n X dX13_about_21 rfl (by decide) rfl ?_
      refine r_iload_n X dX13_about_22 rfl rfl ?_
      refine r_sw (0) (fun h23_0 => ?_) (fun h23_0 => ?_)
      · skip
        refine r_tableIn (off := 65) (tgt := 88) X dX13_about_23 (by rw [h23_0]; decide) (by rw [h23_0]; decide) (by rw [h23_0]; rfl) (by decide) ?_
        refine r_aload_n X dX13_about_88 rfl rfl ?_
        refine r_getI X dX13_about_89 fX13_289 (by assumption) (by first | assumption | rfl) ?_
        refine r_ireturn X dX13_about_92 rfl (by first | omega | decide | (simp only [rmL, rmA]; omega)) (by first | omega | decide | (simp only [rmL, rmA]; omega)) ?_
        refine ⟨?_, rfl⟩
        simp only [mAbout, hx]
        simp [mtAbout, *]
      · skip
        refine r_sw (1) (fun h23_1 => ?_) (fun h23_1 => ?_)
        · skip
          refine r_tableIn (off := 70) (tgt := 93) X dX13_about_23 (by rw [h23_1]; decide) (by rw [h23_1]; decide) (by rw [h23_1]; rfl) (by decide) ?_
          refine r_aload_n X dX13_about_93 rfl rfl ?_
          refine r_getI X dX13_about_94 fX13_307 (by assumption) rfl ?_
          refine r_ireturn X dX13_about_97 rfl (by first | omega | decide | (simp only [rmL, rmA]; omega)) (by first | omega | decide | (simp only [rmL, rmA]; omega)) ?_
          refine ⟨?_, rfl⟩
          simp only [mAbout, hx]
          simp [mtAbout, *]
        · skip
          refine r_sw (2) (fun h23_2 => ?_) (fun h23_2 => ?_)
          · skip
            refine r_tableIn (off := 75) (tgt := 98) X dX13_about_23 (by rw [h23_2]; decide) (by rw [h23_2]; decide) (by rw [h23_2]; rfl) (by decide) ?_
            refine r_aload_n X dX13_about_98 rfl rfl ?_
            refine r_getI X dX13_about_99 fX13_304 (by assumption) (by first | assumption | rfl) ?_
            refine r_ireturn X dX13_about_102 rfl (by first | omega | decide | (simp only [rmL, rmA]; omega)) (by first | omega | decide | (simp only [rmL, rmA]; omega)) ?_
            refine ⟨?_, rfl⟩
            simp only [mAbout, hx]
            simp [mtAbout, *]
          · skip
            refine r_sw (3) (fun h23_3 => ?_) (fun h23_3 => ?_)
            · skip
              refine r_tableIn (off := 80) (tgt := 103) X dX13_about_23 (by rw [h23_3]; decide) (by rw [h23_3]; decide) (by rw [h23_3]; rfl) (by decide) ?_
              refine r_aload_n X dX13_about_103 rfl rfl ?_
              refine r_aload_n X dX13_about_104 rfl rfl ?_
              refine q_callV X dX13_about_105 mX13_391 cwX13_way (c_mWay GE S I V J N g _ _ hM hT hl1 hl2) rfl (by assumption) rfl rfl rfl (Nat.le_of_ble_eq_true rfl) ⟨Nat.le_of_ble_eq_true rfl, Nat.le_of_ble_eq_true rfl⟩ ⟨(by first | omega | decide | (simp only [rmL, rmA]; omega)), (by first | omega | decide | (simp only [rmL, rmA]; omega))⟩ ?_
              rintro _ _ ⟨rfl, rfl⟩
              refine r_ireturn X dX13_about_108 rfl (by first | omega | decide | (simp only [rmL, rmA]; omega)) (by first | omega | decide | (simp only [rmL, rmA]; omega)) ?_
              refine ⟨?_, rfl⟩
              simp only [mAbout, hx]
              simp [mtAbout, *]
            · skip
              refine r_sw (4) (fun h23_4 => ?_) (fun h23_4 => ?_)
              · skip
                refine r_tableIn (off := 86) (tgt := 109) X dX13_about_23 (by rw [h23_4]; decide) (by rw [h23_4]; decide) (by rw [h23_4]; rfl) (by decide) ?_
                refine r_aload_n X dX13_about_109 rfl rfl ?_
                refine r_iconst (v := 0) X dX13_about_110 (by decide) ?_
                refine q_callV X dX13_about_111 mX13_324 cwX12_of (c_mOf GE S I V J N _ _ _ hT hl3 hl4) rfl (by assumption) rfl rfl rfl (Nat.le_of_ble_eq_true rfl) ⟨Nat.le_of_ble_eq_true rfl, Nat.le_of_ble_eq_true rfl⟩ ⟨(by first | omega | decide | (simp only [rmL, rmA]; omega)), (by first | omega | decide | (simp only [rmL, rmA]; omega))⟩ ?_
                rintro _ _ ⟨rfl, rfl⟩
                refine r_ireturn X dX13_about_114 rfl (by first | omega | decide | (simp only [rmL, rmA]; omega)) (by first | omega | decide | (simp only [rmL, rmA]; omega)) ?_
                refine ⟨?_, rfl⟩
                simp only [mAbout, hx]
                simp [mtAbout, *]
              · skip
                refine r_sw (5) (fun h23_5 => ?_) (fun h23_5 => ?_)
                · skip
                  refine r_tableIn (off := 92) (tgt := 115) X dX13_about_23 (by rw [h23_5]; decide) (by rw [h23_5]; decide) (by rw [h23_5]; rfl) (by decide) ?_
                  refine r_aload_n X dX13_about_115 rfl rfl ?_
                  refine r_iconst (v := 1) X dX13_about_116 (by decide) ?_
                  refine q_callV X dX13_about_117 mX13_324 cwX12_of (c_mOf GE S I V J N _ _ _ hT hl3 hl4) rfl (by assumption) rfl rfl rfl (Nat.le_of_ble_eq_true rfl) ⟨Nat.le_of_ble_eq_true rfl, Nat.le_of_ble_eq_true rfl⟩ ⟨(by first | omega | decide | (simp only [rmL, rmA]; omega)), (by first | omega | decide | (simp only [rmL, rmA]; omega))⟩ ?_
                  rintro _ _ ⟨rfl, rfl⟩
                  refine r_ireturn X dX13_about_120 rfl (by first | omega | decide | (simp only [rmL, rmA]; omega)) (by first | omega | decide | (simp only [rmL, rmA]; omega)) ?_
                  refine ⟨?_, rfl⟩
                  simp only [mAbout, hx]
                  simp [mtAbout, *]
                · skip
                  refine r_sw (6) (fun h23_6 => ?_) (fun h23_6 => ?_)
                  · skip
                    refine r_tableIn (off := 98) (tgt := 121) X dX13_about_23 (by rw [h23_6]; decide) (by rw [h23_6]; decide) (by rw [h23_6]; rfl) (by decide) ?_
                    refine r_aload_n X dX13_about_121 rfl rfl ?_
                    refine r_iconst (v := 2) X dX13_about_122 (by decide) ?_
                    refine q_callV X dX13_about_123 mX13_324 cwX12_of (c_mOf GE S I V J N _ _ _ hT hl3 hl4) rfl (by assumption) rfl rfl rfl (Nat.le_of_ble_eq_true rfl) ⟨Nat.le_of_ble_eq_true rfl, Nat.le_of_ble_eq_true rfl⟩ ⟨(by first | omega | decide | (simp only [rmL, rmA]; omega)), (by first | omega | decide | (simp only [rmL, rmA]; omega))⟩ ?_
                    rintro _ _ ⟨rfl, rfl⟩
                    refine r_ireturn X dX13_about_126 rfl (by first | omega | decide | (simp only [rmL, rmA]; omega)) (by first | omega | decide | (simp only [rmL, rmA]; omega)) ?_
                    refine ⟨?_, rfl⟩
                    simp only [mAbout, hx]
                    simp [mtAbout, *]
                  · skip
                    refine r_sw (7) (fun h23_7 => ?_) (fun h23_7 => ?_)
                    · skip
                      refine r_tableIn (off := 104) (tgt := 127) X dX13_about_23 (by rw [h23_7]; decide) (by rw [h23_7]; decide) (by rw [h23_7]; rfl) (by decide) ?_
                      refine r_aload_n X dX13_about_127 rfl rfl ?_
                      refine r_getI X dX13_about_128 fX13_327 (by assumption) (by first | assumption | rfl) ?_
                      refine r_ireturn X dX13_about_131 rfl (by first | omega | decide | (simp only [rmL, rmA]; omega)) (by first | omega | decide | (simp only [rmL, rmA]; omega)) ?_
                      refine ⟨?_, rfl⟩
                      simp only [mAbout, hx]
                      simp [mtAbout, *]
                    · skip
                      refine r_sw (8) (fun h23_8 => ?_) (fun h23_8 => ?_)
                      · skip
                        refine r_tableIn (off := 109) (tgt := 132) X dX13_about_23 (by rw [h23_8]; decide) (by rw [h23_8]; decide) (by rw [h23_8]; rfl) (by decide) ?_
                        refine r_aload_n X dX13_about_132 rfl rfl ?_
                        refine r_getI X dX13_about_133 fX13_322 (by assumption) (by first | assumption | rfl) ?_
                        refine r_ireturn X dX13_about_136 rfl (by first | omega | decide | (simp only [rmL, rmA]; omega)) (by first | omega | decide | (simp only [rmL, rmA]; omega)) ?_
                        refine ⟨?_, rfl⟩
                        simp only [mAbout, hx]
                        simp [mtAbout, *]
                      · skip
                        refine r_sw (9) (fun h23_9 => ?_) (fun h23_9 => ?_)
                        · skip
                          refine r_tableIn (off := 114) (tgt := 137) X dX13_about_23 (by rw [h23_9]; decide) (by rw [h23_9]; decide) (by rw [h23_9]; rfl) (by decide) ?_
                          refine r_aload_n X dX13_about_137 rfl rfl ?_
                          refine r_getI X dX13_about_138 fX13_310 (by assumption) (by first | assumption | rfl) ?_
                          refine r_ireturn X dX13_about_141 rfl (by first | omega | decide | (simp only [rmL, rmA]; omega)) (by first | omega | decide | (simp only [rmL, rmA]; omega)) ?_
                          refine ⟨?_, rfl⟩
                          simp only [mAbout, hx]
                          simp [mtAbout, *]
                        · skip
                          refine r_sw (10) (fun h23_10 => ?_) (fun h23_10 => ?_)
                          · skip
                            refine r_tableIn (off := 119) (tgt := 142) X dX13_about_23 (by rw [h23_10]; decide) (by rw [h23_10]; decide) (by rw [h23_10]; rfl) (by decide) ?_
                            refine r_aload_n X dX13_about_142 rfl rfl ?_
                            refine r_getI X dX13_about_143 fX13_312 (by assumption) (by first | assumption | rfl) ?_
                            refine r_ireturn X dX13_about_146 rfl (by first | omega | decide | (simp only [rmL, rmA]; omega)) (by first | omega | decide | (simp only [rmL, rmA]; omega)) ?_
                            refine ⟨?_, rfl⟩
                            simp only [mAbout, hx]
                            simp [mtAbout, *]
                          · skip
                            refine r_sw (11) (fun h23_11 => ?_) (fun h23_11 => ?_)
                            · skip
                              refine r_tableIn (off := 124) (tgt := 147) X dX13_about_23 (by rw [h23_11]; decide) (by rw [h23_11]; decide) (by rw [h23_11]; rfl) (by decide) ?_
                              refine r_aload_n X dX13_about_147 rfl rfl ?_
                              refine r_getI X dX13_about_148 fX13_292 (by assumption) (by first | assumption | rfl) ?_
                              refine r_ireturn X dX13_about_151 rfl (by first | omega | decide | (simp only [rmL, rmA]; omega)) (by first | omega | decide | (simp only [rmL, rmA]; omega)) ?_
                              refine ⟨?_, rfl⟩
                              simp only [mAbout, hx]
                              simp [mtAbout, *]
                            · skip
                              refine r_sw (12) (fun h23_12 => ?_) (fun h23_12 => ?_)
                              · skip
                                refine r_tableIn (off := 129) (tgt := 152) X dX13_about_23 (by rw [h23_12]; decide) (by rw [h23_12]; decide) (by rw [h23_12]; rfl) (by decide) ?_
                                refine r_aload_n X dX13_about_152 rfl rfl ?_
                                refine r_getI X dX13_about_153 fX13_333 (by assumption) (by first | assumption | rfl) ?_
                                refine r_ireturn X dX13_about_156 rfl (by first | omega | decide | (simp only [rmL, rmA]; omega)) (by first | omega | decide | (simp only [rmL, rmA]; omega)) ?_
                                refine ⟨?_, rfl⟩
                                simp only [mAbout, hx]
                                simp [mtAbout, *]
                              · skip
                                refine r_tableOut (tgt := 157) X dX13_about_23 (by have e0 := lv_neT (a := 0) h23_0 (by decide); have e1 := lv_neT (a := 1) h23_1 (by decide); have e2 := lv_neT (a := 2) h23_2 (by decide); have e3 := lv_neT (a := 3) h23_3 (by decide); have e4 := lv_neT (a := 4) h23_4 (by decide); have e5 := lv_neT (a := 5) h23_5 (by decide); have e6 := lv_neT (a := 6) h23_6 (by decide); have e7 := lv_neT (a := 7) h23_7 (by decide); have e8 := lv_neT (a := 8) h23_8 (by decide); have e9 := lv_neT (a := 9) h23_9 (by decide); have e10 := lv_neT (a := 10) h23_10 (by decide); have e11 := lv_neT (a := 11) h23_11 (by decide); have e12 := lv_neT (a := 12) h23_12 (by decide); omega) (by decide) ?_
                                refine r_iconst (v := -1) X dX13_about_157 (by decide) ?_
                                refine r_ireturn X dX13_about_158 rfl (by first | omega | decide | (simp only [rmL, rmA]; omega)) (by first | omega | decide | (simp only [rmL, rmA]; omega)) ?_
                                refine ⟨?_, rfl⟩
                                simp only [mAbout, hx]
                                simp [mtAbout, *]
    · skip
      exact (ix_t hx h10).elim
def mDog (I : Mem) (g c : Nat) (x d y : Int32) : Int32 := match ixI x c with
  | none => -1
  | some i => match ixI d (mD I (mt g i)) with
    | none => -1
    | some k => if y = 0 then I (mt g i + 1) k else if y = 1 then I (mt g i + 2) k else if y = 2 then I (mt g i + 3) k else -1
set_option maxHeartbeats 2000000 in
set_option maxRecDepth 20000 in
/-- SledHouseModel.dog -/
theorem c_mDog {E : Ev} (GE : Glob E) (S : Nat → Option (Nat × Nat)) (I : Nat → Nat → Int32) (V : Nat → Nat → Option Nat) (J : Nat → Nat → Int64) (N : Nat) (g c : Nat) (x d y : Int32) (hM : MdSh S V g) (h0 : I g 0 = 0) (hc : I g 5 = nI c) (hc6 : c ≤ 6) (hl : ∀ i, i < c → MtOK I (mt g i)) : Ct E yX13_dog cX13_dog 5 (some .int) (rmL 1) [.ref g, .int x, .int d, .int y] (S, I, V, J, N) (fun v w' => v = some (.int (mDog I g c x d y)) ∧ w' = (S, I, V, J, N)) := by
  refine Ct.start GE (by decide) rfl (Nat.le_of_ble_eq_true rfl) (fun M X => ?_)
  have X : Cx E M RX13 cX13_dog 5 (rmL 1) (some .int) "dog" := X
  refine r_loc (L' := [some (.ref g), some (.int x), some (.int d), some (.int y), none]) rfl ?_
  obtain ⟨hs0, v8, v9, v10, v11, v16, v17, v18, v19, v20, s1, s2, s3, s4, s5, s6, s7, s8, hOt, hTe, hKt⟩ := id hM
  rcases hx : ixI x c with _ | i
  · skip
    refine r_aload_n X dX13_dog_0 rfl rfl ?_
    refine r_iconst (v := 0) X dX13_dog_1 (by decide) ?_
    refine r_putI X dX13_dog_2 fX13_1 wX13_1 (by assumption) rfl rfl ?_
    refine r_world (w' := (S, I, V, J, N)) (by rw [up2_id I h0]) ?_
    refine r_aload_n X dX13_dog_5 rfl rfl ?_
    refine r_iload_n X dX13_dog_6 rfl rfl ?_
    refine q_callV X dX13_dog_7 mX13_286 cwX13_isTeam (c_mIsTeam GE S I V J N g c x hs0 hc) rfl (by assumption) rfl rfl rfl (Nat.le_of_ble_eq_true rfl) ⟨Nat.le_of_ble_eq_true rfl, Nat.le_of_ble_eq_true rfl⟩ ⟨(by first | omega | decide | (simp only [rmL, rmA]; omega)), (by first | omega | decide | (simp only [rmL, rmA]; omega))⟩ ?_
    rintro _ _ ⟨rfl, rfl⟩
    refine r_if_eq (tgt := 30) X dX13_dog_10 (by decide) (fun h10 => ?_) (fun h10 => ?_)
    · skip
      refine r_iconst (v := -1) X dX13_dog_30 (by decide) ?_
      refine r_ireturn X dX13_dog_31 rfl (by first | omega | decide | (simp only [rmL, rmA]; omega)) (by first | omega | decide | (simp only [rmL, rmA]; omega)) ?_
      exact ⟨by simp [mDog, hx], rfl⟩
    · skip
      exact (ix_f hx h10).elim
  · skip
    obtain ⟨hi, rfl⟩ := ixI_some (by omega) hx
    have te1 := (hTe i (by omega)).1
    have hT := (hTe i (by omega)).2
    obtain ⟨ts0, u15, u16, u17, u18, u19, u20, u21, u22, u23, w1, w2, w3, w4, w5, w6, w7, w8, w9⟩ := id hT
    obtain ⟨hl1, hl2, hl3, hl4⟩ := hl i hi
    rcases hd : ixI d (mD I (mt g i)) with _ | k
    · skip
      refine r_aload_n X dX13_dog_0 rfl rfl ?_
      refine r_iconst (v := 0) X dX13_dog_1 (by decide) ?_
      refine r_putI X dX13_dog_2 fX13_1 wX13_1 (by assumption) rfl rfl ?_
      refine r_world (w' := (S, I, V, J, N)) (by rw [up2_id I h0]) ?_
      refine r_aload_n X dX13_dog_5 rfl rfl ?_
      refine r_iload_n X dX13_dog_6 rfl rfl ?_
      refine q_callV X dX13_dog_7 mX13_286 cwX13_isTeam (c_mIsTeam GE S I V J N g c _ hs0 hc) rfl (by assumption) rfl rfl rfl (Nat.le_of_ble_eq_true rfl) ⟨Nat.le_of_ble_eq_true rfl, Nat.le_of_ble_eq_true rfl⟩ ⟨(by first | omega | decide | (simp only [rmL, rmA]; omega)), (by first | omega | decide | (simp only [rmL, rmA]; omega))⟩ ?_
      rintro _ _ ⟨rfl, rfl⟩
      refine r_if_eq (tgt := 30) X dX13_dog_10 (by decide) (fun h10 => ?_) (fun h10 => ?_)
      · skip
        exact (ix_t hx h10).elim
      · skip
        refine r_iload_n X dX13_dog_13 rfl rfl ?_
        refine r_if_lt (tgt := 30) X dX13_dog_14 (by decide) (fun h14 => ?_) (fun h14 => ?_)
        · skip
          refine r_iconst (v := -1) X dX13_dog_30 (by decide) ?_
          refine r_ireturn X dX13_dog_31 rfl (by first | omega | decide | (simp only [rmL, rmA]; omega)) (by first | omega | decide | (simp only [rmL, rmA]; omega)) ?_
          exact ⟨by simp [mDog, hx, hd], rfl⟩
        · skip
          refine r_iload_n X dX13_dog_17 rfl rfl ?_
          refine r_aload_n X dX13_dog_18 rfl rfl ?_
          refine r_getR X dX13_dog_19 fX13_34 (by assumption) (by assumption) ?_
          refine r_iload_n X dX13_dog_22 rfl rfl ?_
          refine r_aaldN X dX13_dog_23 (by assumption) (by decide) rfl (by omega) (by omega) (by assumption) ?_
          refine r_getI X dX13_dog_24 fX13_361 (by assumption) (by first | assumption | rfl) ?_
          refine r_icmp_lt (tgt := 32) X dX13_dog_27 (by decide) (fun h27 => ?_) (fun h27 => ?_)
          · skip
            exact ((ixI_none hd).elim (fun z => h14 z) (fun z => absurd h27 (Int32.not_lt.mpr z))).elim
          · skip
            refine r_iconst (v := -1) X dX13_dog_30 (by decide) ?_
            refine r_ireturn X dX13_dog_31 rfl (by first | omega | decide | (simp only [rmL, rmA]; omega)) (by first | omega | decide | (simp only [rmL, rmA]; omega)) ?_
            exact ⟨by simp [mDog, hx, hd], rfl⟩
    · obtain ⟨hk, rfl⟩ := ixI_some (by omega) hd
      refine r_aload_n X dX13_dog_0 rfl rfl ?_
      refine r_iconst (v := 0) X dX13_dog_1 (by decide) ?_
      refine r_putI X dX13_dog_2 fX13_1 wX13_1 (by assumption) rfl rfl ?_
      refine r_world (w' := (S, I, V, J, N)) (by rw [up2_id I h0]) ?_
      refine r_aload_n X dX13_dog_5 rfl rfl ?_
      refine r_iload_n X dX13_dog_6 rfl rfl ?_
      refine q_callV X dX13_dog_7 mX13_286 cwX13_isTeam (c_mIsTeam GE S I V J N g c _ hs0 hc) rfl (by assumption) rfl rfl rfl (Nat.le_of_ble_eq_true rfl) ⟨Nat.le_of_ble_eq_true rfl, Nat.le_of_ble_eq_true rfl⟩ ⟨(by first | omega | decide | (simp only [rmL, rmA]; omega)), (by first | omega | decide | (simp only [rmL, rmA]; omega))⟩ ?_
      rintro _ _ ⟨rfl, rfl⟩
      refine r_if_eq (tgt := 30) X dX13_dog_10 (by decide) (fun h10 => ?_) (fun h10 => ?_)
      · skip
        exact (ix_t hx h10).elim
      · skip
        refine r_iload_n X dX13_dog_13 rfl rfl ?_
        refine r_if_lt (tgt := 30) X dX13_dog_14 (by decide) (fun h14 => ?_) (fun h14 => ?_)
        · skip
          exact absurd h14 (nI_pos (by omega))
        · skip
          refine r_iload_n X dX13_dog_17 rfl rfl ?_
          refine r_aload_n X dX13_dog_18 rfl rfl ?_
          refine r_getR X dX13_dog_19 fX13_34 (by assumption) (by assumption) ?_
          refine r_iload_n X dX13_dog_22 rfl rfl ?_
          refine r_aaldN X dX13_dog_23 (by assumption) (by decide) rfl (by omega) (by omega) (by assumption) ?_
          refine r_getI X dX13_dog_24 fX13_361 (by assumption) (by first | assumption | rfl) ?_
          refine r_icmpN_lt (tgt := 32) X dX13_dog_27 (by decide) (by omega) (by omega) (fun h27 => ?_) (fun h27 => ?_)
          · skip
            refine r_aload_n X dX13_dog_32 rfl rfl ?_
            refine r_getR X dX13_dog_33 fX13_34 (by assumption) (by assumption) ?_
            refine r_iload_n X dX13_dog_36 rfl rfl ?_
            refine r_aaldN X dX13_dog_37 (by assumption) (by decide) rfl (by omega) (by omega) (by assumption) ?_
            refine r_astore X dX13_dog_38 (by decide) rfl ?_
            refine r_iload_n X dX13_dog_40 rfl rfl ?_
            refine r_if_ne (tgt := 54) X dX13_dog_41 (by decide) (fun h41 => ?_) (fun h41 => ?_)
            · skip
              refine r_iload_n X dX13_dog_54 rfl rfl ?_
              refine r_iconst (v := 1) X dX13_dog_55 (by decide) ?_
              refine r_icmp_ne (tgt := 69) X dX13_dog_56 (by decide) (fun h56 => ?_) (fun h56 => ?_)
              · skip
                refine r_iload_n X dX13_dog_69 rfl rfl ?_
                refine r_iconst (v := 2) X dX13_dog_70 (by decide) ?_
                refine r_icmp_ne (tgt := 84) X dX13_dog_71 (by decide) (fun h71 => ?_) (fun h71 => ?_)
                · skip
                  refine r_iconst (v := -1) X dX13_dog_84 (by decide) ?_
                  refine r_ireturn X dX13_dog_85 rfl (by first | omega | decide | (simp only [rmL, rmA]; omega)) (by first | omega | decide | (simp only [rmL, rmA]; omega)) ?_
                  refine ⟨?_, rfl⟩
                  simp only [mDog, hx, hd]
                  simp [*]
                · skip
                  refine r_aload X dX13_dog_74 rfl ?_
                  refine r_getR X dX13_dog_76 fX13_355 (by assumption) (by assumption) ?_
                  refine r_iload_n X dX13_dog_79 rfl rfl ?_
                  refine r_ialdN X dX13_dog_80 (by assumption) (by omega) (by omega) (by first | assumption | rfl) ?_
                  refine r_goto (tgt := 85) X dX13_dog_81 (by decide) ?_
                  refine r_ireturn X dX13_dog_85 rfl (by first | omega | decide | (simp only [rmL, rmA]; omega)) (by first | omega | decide | (simp only [rmL, rmA]; omega)) ?_
                  refine ⟨?_, rfl⟩
                  simp only [mDog, hx, hd]
                  simp [*]
              · skip
                refine r_aload X dX13_dog_59 rfl ?_
                refine r_getR X dX13_dog_61 fX13_352 (by assumption) (by assumption) ?_
                refine r_iload_n X dX13_dog_64 rfl rfl ?_
                refine r_ialdN X dX13_dog_65 (by assumption) (by omega) (by omega) (by first | assumption | rfl) ?_
                refine r_goto (tgt := 85) X dX13_dog_66 (by decide) ?_
                refine r_ireturn X dX13_dog_85 rfl (by first | omega | decide | (simp only [rmL, rmA]; omega)) (by first | omega | decide | (simp only [rmL, rmA]; omega)) ?_
                refine ⟨?_, rfl⟩
                simp only [mDog, hx, hd]
                simp [*]
            · skip
              refine r_aload X dX13_dog_44 rfl ?_
              refine r_getR X dX13_dog_46 fX13_314 (by assumption) (by assumption) ?_
              refine r_iload_n X dX13_dog_49 rfl rfl ?_
              refine r_ialdN X dX13_dog_50 (by assumption) (by omega) (by omega) (by first | assumption | rfl) ?_
              refine r_goto (tgt := 85) X dX13_dog_51 (by decide) ?_
              refine r_ireturn X dX13_dog_85 rfl (by first | omega | decide | (simp only [rmL, rmA]; omega)) (by first | omega | decide | (simp only [rmL, rmA]; omega)) ?_
              refine ⟨?_, rfl⟩
              simp only [mDog, hx, hd]
              simp [*]
          · skip
            omega
def mTime (I : Mem) (g c n : Nat) (x p b : Int32) : Int32 := match ixI x c with
  | none => -1
  | some i => match ixI p (n + 1) with
    | none => -1
    | some k => if b = 0 then I (mt g i + 4) k else I (mt g i + 5) k
theorem ixp_none {x : Int32} {n : Nat} (hn : n + 1 < 2 ^ 31) (h : ixI x (n + 1) = none) (h1 : ¬ x < 0) : ¬ x ≤ nI n := fun z => by
  rcases ixI_none h with q | q
  · exact h1 q
  · exact absurd ((le_nI hn (Int32.not_lt.mp h1)).mp z) (Int32.not_lt.mpr q)
set_option maxHeartbeats 2000000 in
set_option maxRecDepth 20000 in
/-- SledHouseModel.time -/
theorem c_mTime {E : Ev} (GE : Glob E) (S : Nat → Option (Nat × Nat)) (I : Nat → Nat → Int32) (V : Nat → Nat → Option Nat) (J : Nat → Nat → Int64) (N : Nat) (g c n : Nat) (x p b : Int32) (hM : MdSh S V g) (h0 : I g 0 = 0) (hc : I g 5 = nI c) (hc6 : c ≤ 6) (hn : I g 4 = nI n) (hn12 : n ≤ 12) : Ct E yX13_time cX13_time 4 (some .int) (rmL 1) [.ref g, .int x, .int p, .int b] (S, I, V, J, N) (fun v w' => v = some (.int (mTime I g c n x p b)) ∧ w' = (S, I, V, J, N)) := by
  refine Ct.start GE (by decide) rfl (Nat.le_of_ble_eq_true rfl) (fun M X => ?_)
  have X : Cx E M RX13 cX13_time 4 (rmL 1) (some .int) "time" := X
  refine r_loc (L' := [some (.ref g), some (.int x), some (.int p), some (.int b)]) rfl ?_
  obtain ⟨hs0, v8, v9, v10, v11, v16, v17, v18, v19, v20, s1, s2, s3, s4, s5, s6, s7, s8, hOt, hTe, hKt⟩ := id hM
  rcases hx : ixI x c with _ | i
  · skip
    refine r_aload_n X dX13_time_0 rfl rfl ?_
    refine r_iconst (v := 0) X dX13_time_1 (by decide) ?_
    refine r_putI X dX13_time_2 fX13_1 wX13_1 (by assumption) rfl rfl ?_
    refine r_world (w' := (S, I, V, J, N)) (by rw [up2_id I h0]) ?_
    refine r_aload_n X dX13_time_5 rfl rfl ?_
    refine r_iload_n X dX13_time_6 rfl rfl ?_
    refine q_callV X dX13_time_7 mX13_286 cwX13_isTeam (c_mIsTeam GE S I V J N g c x hs0 hc) rfl (by assumption) rfl rfl rfl (Nat.le_of_ble_eq_true rfl) ⟨Nat.le_of_ble_eq_true rfl, Nat.le_of_ble_eq_true rfl⟩ ⟨(by first | omega | decide | (simp only [rmL, rmA]; omega)), (by first | omega | decide | (simp only [rmL, rmA]; omega))⟩ ?_
    rintro _ _ ⟨rfl, rfl⟩
    refine r_if_eq (tgt := 25) X dX13_time_10 (by decide) (fun h10 => ?_) (fun h10 => ?_)
    · skip
      refine r_iconst (v := -1) X dX13_time_25 (by decide) ?_
      refine r_ireturn X dX13_time_26 rfl (by first | omega | decide | (simp only [rmL, rmA]; omega)) (by first | omega | decide | (simp only [rmL, rmA]; omega)) ?_
      exact ⟨by simp [mTime, hx], rfl⟩
    · skip
      exact (ix_f hx h10).elim
  · skip
    obtain ⟨hi, rfl⟩ := ixI_some (by omega) hx
    have te1 := (hTe i (by omega)).1
    have hT := (hTe i (by omega)).2
    obtain ⟨ts0, u15, u16, u17, u18, u19, u20, u21, u22, u23, w1, w2, w3, w4, w5, w6, w7, w8, w9⟩ := id hT
    rcases hd : ixI p (n + 1) with _ | k
    · skip
      refine r_aload_n X dX13_time_0 rfl rfl ?_
      refine r_iconst (v := 0) X dX13_time_1 (by decide) ?_
      refine r_putI X dX13_time_2 fX13_1 wX13_1 (by assumption) rfl rfl ?_
      refine r_world (w' := (S, I, V, J, N)) (by rw [up2_id I h0]) ?_
      refine r_aload_n X dX13_time_5 rfl rfl ?_
      refine r_iload_n X dX13_time_6 rfl rfl ?_
      refine q_callV X dX13_time_7 mX13_286 cwX13_isTeam (c_mIsTeam GE S I V J N g c _ hs0 hc) rfl (by assumption) rfl rfl rfl (Nat.le_of_ble_eq_true rfl) ⟨Nat.le_of_ble_eq_true rfl, Nat.le_of_ble_eq_true rfl⟩ ⟨(by first | omega | decide | (simp only [rmL, rmA]; omega)), (by first | omega | decide | (simp only [rmL, rmA]; omega))⟩ ?_
      rintro _ _ ⟨rfl, rfl⟩
      refine r_if_eq (tgt := 25) X dX13_time_10 (by decide) (fun h10 => ?_) (fun h10 => ?_)
      · skip
        exact (ix_t hx h10).elim
      · skip
        refine r_iload_n X dX13_time_13 rfl rfl ?_
        refine r_if_lt (tgt := 25) X dX13_time_14 (by decide) (fun h14 => ?_) (fun h14 => ?_)
        · skip
          refine r_iconst (v := -1) X dX13_time_25 (by decide) ?_
          refine r_ireturn X dX13_time_26 rfl (by first | omega | decide | (simp only [rmL, rmA]; omega)) (by first | omega | decide | (simp only [rmL, rmA]; omega)) ?_
          exact ⟨by simp [mTime, hx, hd], rfl⟩
        · skip
          refine r_iload_n X dX13_time_17 rfl rfl ?_
          refine r_aload_n X dX13_time_18 rfl rfl ?_
          refine r_getI X dX13_time_19 fX13_91 (by assumption) (by first | assumption | rfl) ?_
          refine r_icmp_le (tgt := 27) X dX13_time_22 (by decide) (fun h22 => ?_) (fun h22 => ?_)
          · skip
            exact absurd h22 (ixp_none (by omega) hd h14)
          · skip
            refine r_iconst (v := -1) X dX13_time_25 (by decide) ?_
            refine r_ireturn X dX13_time_26 rfl (by first | omega | decide | (simp only [rmL, rmA]; omega)) (by first | omega | decide | (simp only [rmL, rmA]; omega)) ?_
            exact ⟨by simp [mTime, hx, hd], rfl⟩
    · obtain ⟨hk, rfl⟩ := ixI_some (by omega) hd
      refine r_aload_n X dX13_time_0 rfl rfl ?_
      refine r_iconst (v := 0) X dX13_time_1 (by decide) ?_
      refine r_putI X dX13_time_2 fX13_1 wX13_1 (by assumption) rfl rfl ?_
      refine r_world (w' := (S, I, V, J, N)) (by rw [up2_id I h0]) ?_
      refine r_aload_n X dX13_time_5 rfl rfl ?_
      refine r_iload_n X dX13_time_6 rfl rfl ?_
      refine q_callV X dX13_time_7 mX13_286 cwX13_isTeam (c_mIsTeam GE S I V J N g c _ hs0 hc) rfl (by assumption) rfl rfl rfl (Nat.le_of_ble_eq_true rfl) ⟨Nat.le_of_ble_eq_true rfl, Nat.le_of_ble_eq_true rfl⟩ ⟨(by first | omega | decide | (simp only [rmL, rmA]; omega)), (by first | omega | decide | (simp only [rmL, rmA]; omega))⟩ ?_
      rintro _ _ ⟨rfl, rfl⟩
      refine r_if_eq (tgt := 25) X dX13_time_10 (by decide) (fun h10 => ?_) (fun h10 => ?_)
      · skip
        exact (ix_t hx h10).elim
      · skip
        refine r_iload_n X dX13_time_13 rfl rfl ?_
        refine r_if_lt (tgt := 25) X dX13_time_14 (by decide) (fun h14 => ?_) (fun h14 => ?_)
        · skip
          exact absurd h14 (nI_pos (by omega))
        · skip
          refine r_iload_n X dX13_time_17 rfl rfl ?_
          refine r_aload_n X dX13_time_18 rfl rfl ?_
          refine r_getI X dX13_time_19 fX13_91 (by assumption) (by first | assumption | rfl) ?_
          refine r_icmpN_le (tgt := 27) X dX13_time_22 (by decide) (by omega) (by omega) (fun h22 => ?_) (fun h22 => ?_)
          · skip
            refine r_iload_n X dX13_time_27 rfl rfl ?_
            refine r_if_eq (tgt := 45) X dX13_time_28 (by decide) (fun h28 => ?_) (fun h28 => ?_)
            · skip
              refine r_aload_n X dX13_time_45 rfl rfl ?_
              refine r_getR X dX13_time_46 fX13_34 (by assumption) (by assumption) ?_
              refine r_iload_n X dX13_time_49 rfl rfl ?_
              refine r_aaldN X dX13_time_50 (by assumption) (by decide) rfl (by omega) (by omega) (by assumption) ?_
              refine r_getR X dX13_time_51 fX13_335 (by assumption) (by assumption) ?_
              refine r_iload_n X dX13_time_54 rfl rfl ?_
              refine r_ialdN X dX13_time_55 (by assumption) (by omega) (by omega) (by first | assumption | rfl) ?_
              refine r_ireturn X dX13_time_56 rfl (by first | omega | decide | (simp only [rmL, rmA]; omega)) (by first | omega | decide | (simp only [rmL, rmA]; omega)) ?_
              refine ⟨?_, rfl⟩
              simp only [mTime, hx, hd]
              simp [*]
            · skip
              refine r_aload_n X dX13_time_31 rfl rfl ?_
              refine r_getR X dX13_time_32 fX13_34 (by assumption) (by assumption) ?_
              refine r_iload_n X dX13_time_35 rfl rfl ?_
              refine r_aaldN X dX13_time_36 (by assumption) (by decide) rfl (by omega) (by omega) (by assumption) ?_
              refine r_getR X dX13_time_37 fX13_358 (by assumption) (by assumption) ?_
              refine r_iload_n X dX13_time_40 rfl rfl ?_
              refine r_ialdN X dX13_time_41 (by assumption) (by omega) (by omega) (by first | assumption | rfl) ?_
              refine r_goto (tgt := 56) X dX13_time_42 (by decide) ?_
              refine r_ireturn X dX13_time_56 rfl (by first | omega | decide | (simp only [rmL, rmA]; omega)) (by first | omega | decide | (simp only [rmL, rmA]; omega)) ?_
              refine ⟨?_, rfl⟩
              simp only [mTime, hx, hd]
              simp [*]
          · skip
            omega
def mCameN (I : Mem) (g k : Nat) (s : Int32) : Nat → Int32
  | 0 => 0
  | j + 1 => mCameN I g k s j + (if ¬ I (mt g j + 4) k = -1 ∧ I (mt g j + 4) k ≤ s then 1 else 0)
def mCame (I : Mem) (g c n : Nat) (p s : Int32) : Int32 := match ixI p (n + 1) with
  | none => -1
  | some k => mCameN I g k s c
set_option maxHeartbeats 2000000 in
set_option maxRecDepth 20000 in
/-- SledHouseModel.came -/
theorem c_mCame {E : Ev} (GE : Glob E) (S : Nat → Option (Nat × Nat)) (I : Nat → Nat → Int32) (V : Nat → Nat → Option Nat) (J : Nat → Nat → Int64) (N : Nat) (g c n : Nat) (p s : Int32) (hM : MdSh S V g) (h0 : I g 0 = 0) (hc : I g 5 = nI c) (hc6 : c ≤ 6) (hn : I g 4 = nI n) (hn12 : n ≤ 12) : Ct E yX13_came cX13_came 5 (some .int) (rmL 1) [.ref g, .int p, .int s] (S, I, V, J, N) (fun v w' => v = some (.int (mCame I g c n p s)) ∧ w' = (S, I, V, J, N)) := by
  refine Ct.start GE (by decide) rfl (Nat.le_of_ble_eq_true rfl) (fun M X => ?_)
  have X : Cx E M RX13 cX13_came 5 (rmL 1) (some .int) "came" := X
  refine r_loc (L' := [some (.ref g), some (.int p), some (.int s), none, none]) rfl ?_
  obtain ⟨hs0, v8, v9, v10, v11, v16, v17, v18, v19, v20, s1, s2, s3, s4, s5, s6, s7, s8, hOt, hTe, hKt⟩ := id hM
  rcases hd : ixI p (n + 1) with _ | k
  · skip
    refine r_aload_n X dX13_came_0 rfl rfl ?_
    refine r_iconst (v := 0) X dX13_came_1 (by decide) ?_
    refine r_putI X dX13_came_2 fX13_1 wX13_1 (by assumption) rfl rfl ?_
    refine r_world (w' := (S, I, V, J, N)) (by rw [up2_id I h0]) ?_
    refine r_iload_n X dX13_came_5 rfl rfl ?_
    refine r_if_lt (tgt := 17) X dX13_came_6 (by decide) (fun h6 => ?_) (fun h6 => ?_)
    · skip
      refine r_iconst (v := -1) X dX13_came_17 (by decide) ?_
      refine r_ireturn X dX13_came_18 rfl (by first | omega | decide | (simp only [rmL, rmA]; omega)) (by first | omega | decide | (simp only [rmL, rmA]; omega)) ?_
      exact ⟨by simp [mCame, hd], rfl⟩
    · skip
      refine r_iload_n X dX13_came_9 rfl rfl ?_
      refine r_aload_n X dX13_came_10 rfl rfl ?_
      refine r_getI X dX13_came_11 fX13_91 (by assumption) (by first | assumption | rfl) ?_
      refine r_icmp_le (tgt := 19) X dX13_came_14 (by decide) (fun h14 => ?_) (fun h14 => ?_)
      · skip
        exact absurd h14 (ixp_none (by omega) hd h6)
      · skip
        refine r_iconst (v := -1) X dX13_came_17 (by decide) ?_
        refine r_ireturn X dX13_came_18 rfl (by first | omega | decide | (simp only [rmL, rmA]; omega)) (by first | omega | decide | (simp only [rmL, rmA]; omega)) ?_
        exact ⟨by simp [mCame, hd], rfl⟩
  · obtain ⟨hk, rfl⟩ := ixI_some (by omega) hd
    have H : ∀ j, j ≤ c → G E M 0 0 (qQ E M (rmL 1) (fun v w' => v = some (.int (mCame I g c n (nI k) s)) ∧ w' = (S, I, V, J, N))) 24 [some (.ref g), some (.int (nI k)), some (.int s), some (.int (mCameN I g k s j)), some (.int (nI j))] [] (S, I, V, J, N) := by
      refine loopN c (fun j hj ih => ?_)
      refine r_iload X dX13_came_24 rfl ?_
      refine r_aload_n X dX13_came_26 rfl rfl ?_
      refine r_getI X dX13_came_27 fX13_94 (by assumption) (by first | assumption | rfl) ?_
      refine r_icmpN_ge (tgt := 79) X dX13_came_30 (by decide) (by omega) (by omega) (fun h30 => ?_) (fun h30 => ?_)
      · skip
        refine r_iload_n X dX13_came_79 rfl rfl ?_
        refine r_ireturn X dX13_came_80 rfl (by first | omega | decide | (simp only [rmL, rmA]; omega)) (by first | omega | decide | (simp only [rmL, rmA]; omega)) ?_
        obtain rfl : j = c := by omega
        exact ⟨by simp [mCame, hd], rfl⟩
      · skip
        have te1 := (hTe j (by omega)).1
        have hT := (hTe j (by omega)).2
        obtain ⟨ts0, u15, u16, u17, u18, u19, u20, u21, u22, u23, w1, w2, w3, w4, w5, w6, w7, w8, w9⟩ := id hT
        refine r_iload_n X dX13_came_33 rfl rfl ?_
        refine r_aload_n X dX13_came_34 rfl rfl ?_
        refine r_getR X dX13_came_35 fX13_34 (by assumption) (by assumption) ?_
        refine r_iload X dX13_came_38 rfl ?_
        refine r_aaldN X dX13_came_40 (by assumption) (by decide) rfl (by omega) (by omega) (by assumption) ?_
        refine r_getR X dX13_came_41 fX13_335 (by assumption) (by assumption) ?_
        refine r_iload_n X dX13_came_44 rfl rfl ?_
        refine r_ialdN X dX13_came_45 (by assumption) (by omega) (by omega) (by first | assumption | rfl) ?_
        refine r_iconst (v := -1) X dX13_came_46 (by decide) ?_
        refine r_icmp_eq (tgt := 70) X dX13_came_47 (by decide) (fun h47 => ?_) (fun h47 => ?_)
        · skip
          refine r_iconst (v := 0) X dX13_came_70 (by decide) ?_
          have e : ∀ y : Int32, y = (if ¬ I (mt g j + 4) k = -1 ∧ I (mt g j + 4) k ≤ s then 1 else 0) → mCameN I g k s j + y = mCameN I g k s (j + 1) := fun y hy => by rw [mCameN, hy]
          refine r_iadd X dX13_came_71 ?_
          refine r_topi (mCameN I g k s (j + 1)) (by first | exact e 1 (by rw [if_pos ⟨h47, Int32.not_lt.mp h63⟩]) | exact e 0 (by rw [if_neg (fun z => absurd h63 (Int32.not_lt.mpr z.2))]) | exact e 0 (by rw [if_neg (fun z => z.1 h47)])) ?_
          refine r_istore_n X dX13_came_72 rfl (by decide) rfl ?_
          first | refine r_iincN X dX13_came_73 rfl (by decide) rfl ?_ | refine r_iinc X dX13_came_73 rfl rfl (by decide) rfl ?_
          refine r_goto (tgt := 24) X dX13_came_76 (by decide) ?_
          exact ih (by omega)
        · skip
          refine r_aload_n X dX13_came_50 rfl rfl ?_
          refine r_getR X dX13_came_51 fX13_34 (by assumption) (by assumption) ?_
          refine r_iload X dX13_came_54 rfl ?_
          refine r_aaldN X dX13_came_56 (by assumption) (by decide) rfl (by omega) (by omega) (by assumption) ?_
          refine r_getR X dX13_came_57 fX13_335 (by assumption) (by assumption) ?_
          refine r_iload_n X dX13_came_60 rfl rfl ?_
          refine r_ialdN X dX13_came_61 (by assumption) (by omega) (by omega) (by first | assumption | rfl) ?_
          refine r_iload_n X dX13_came_62 rfl rfl ?_
          refine r_icmp_gt (tgt := 70) X dX13_came_63 (by decide) (fun h63 => ?_) (fun h63 => ?_)
          · skip
            refine r_iconst (v := 0) X dX13_came_70 (by decide) ?_
            have e : ∀ y : Int32, y = (if ¬ I (mt g j + 4) k = -1 ∧ I (mt g j + 4) k ≤ s then 1 else 0) → mCameN I g k s j + y = mCameN I g k s (j + 1) := fun y hy => by rw [mCameN, hy]
            refine r_iadd X dX13_came_71 ?_
            refine r_topi (mCameN I g k s (j + 1)) (by first | exact e 1 (by rw [if_pos ⟨h47, Int32.not_lt.mp h63⟩]) | exact e 0 (by rw [if_neg (fun z => absurd h63 (Int32.not_lt.mpr z.2))]) | exact e 0 (by rw [if_neg (fun z => z.1 h47)])) ?_
            refine r_istore_n X dX13_came_72 rfl (by decide) rfl ?_
            first | refine r_iincN X dX13_came_73 rfl (by decide) rfl ?_ | refine r_iinc X dX13_came_73 rfl rfl (by decide) rfl ?_
            refine r_goto (tgt := 24) X dX13_came_76 (by decide) ?_
            exact ih (by omega)
          · skip
            refine r_iconst (v := 1) X dX13_came_66 (by decide) ?_
            refine r_goto (tgt := 71) X dX13_came_67 (by decide) ?_
            have e : ∀ y : Int32, y = (if ¬ I (mt g j + 4) k = -1 ∧ I (mt g j + 4) k ≤ s then 1 else 0) → mCameN I g k s j + y = mCameN I g k s (j + 1) := fun y hy => by rw [mCameN, hy]
            refine r_iadd X dX13_came_71 ?_
            refine r_topi (mCameN I g k s (j + 1)) (by first | exact e 1 (by rw [if_pos ⟨h47, Int32.not_lt.mp h63⟩]) | exact e 0 (by rw [if_neg (fun z => absurd h63 (Int32.not_lt.mpr z.2))]) | exact e 0 (by rw [if_neg (fun z => z.1 h47)])) ?_
            refine r_istore_n X dX13_came_72 rfl (by decide) rfl ?_
            first | refine r_iincN X dX13_came_73 rfl (by decide) rfl ?_ | refine r_iinc X dX13_came_73 rfl rfl (by decide) rfl ?_
            refine r_goto (tgt := 24) X dX13_came_76 (by decide) ?_
            exact ih (by omega)
    refine r_aload_n X dX13_came_0 rfl rfl ?_
    refine r_iconst (v := 0) X dX13_came_1 (by decide) ?_
    refine r_putI X dX13_came_2 fX13_1 wX13_1 (by assumption) rfl rfl ?_
    refine r_world (w' := (S, I, V, J, N)) (by rw [up2_id I h0]) ?_
    refine r_iload_n X dX13_came_5 rfl rfl ?_
    refine r_if_lt (tgt := 17) X dX13_came_6 (by decide) (fun h6 => ?_) (fun h6 => ?_)
    · skip
      exact absurd h6 (nI_pos (by omega))
    · skip
      refine r_iload_n X dX13_came_9 rfl rfl ?_
      refine r_aload_n X dX13_came_10 rfl rfl ?_
      refine r_getI X dX13_came_11 fX13_91 (by assumption) (by first | assumption | rfl) ?_
      refine r_icmpN_le (tgt := 19) X dX13_came_14 (by decide) (by omega) (by omega) (fun h14 => ?_) (fun h14 => ?_)
      · skip
        refine r_iconst (v := 0) X dX13_came_19 (by decide) ?_
        refine r_istore_n X dX13_came_20 rfl (by decide) rfl ?_
        refine r_iconst (v := nI 0) X dX13_came_21 (by decide) ?_
        refine r_istore X dX13_came_22 (by decide) rfl ?_
        exact H 0 (by omega)
      · skip
        omega
def mTrail (I : Mem) (g : Nat) : Nat → Int32
  | 0 => 0
  | j + 1 => mTrail I g j + I (g + 1) j
set_option maxHeartbeats 2000000 in
set_option maxRecDepth 20000 in
/-- SledHouseModel.trail -/
theorem c_mTrail {E : Ev} (GE : Glob E) (S : Nat → Option (Nat × Nat)) (I : Nat → Nat → Int32) (V : Nat → Nat → Option Nat) (J : Nat → Nat → Int64) (N : Nat) (g n : Nat) (hM : MdSh S V g) (hn : I g 4 = nI n) (hn12 : n ≤ 12) : Ct E yX13_trail cX13_trail 3 (some .int) (rmL 0) [.ref g] (S, I, V, J, N) (fun v w' => v = some (.int (mTrail I g n)) ∧ w' = (S, I, V, J, N)) := by
  refine Ct.start GE (by decide) rfl (Nat.le_of_ble_eq_true rfl) (fun M X => ?_)
  have X : Cx E M RX13 cX13_trail 3 (rmL 0) (some .int) "trail" := X
  refine r_loc (L' := [some (.ref g), none, none]) rfl ?_
  obtain ⟨hs0, v8, v9, v10, v11, v16, v17, v18, v19, v20, s1, s2, s3, s4, s5, s6, s7, s8, hOt, hTe, hKt⟩ := id hM
  have H : ∀ j, j ≤ n → G E M 0 0 (qQ E M (rmL 0) (fun v w' => v = some (.int (mTrail I g n)) ∧ w' = (S, I, V, J, N))) 4 [some (.ref g), some (.int (mTrail I g j)), some (.int (nI j))] [] (S, I, V, J, N) := by
    refine loopN n (fun j hj ih => ?_)
    refine r_iload_n X dX13_trail_4 rfl rfl ?_
    refine r_aload_n X dX13_trail_5 rfl rfl ?_
    refine r_getI X dX13_trail_6 fX13_91 (by assumption) (by first | assumption | rfl) ?_
    refine r_icmpN_ge (tgt := 27) X dX13_trail_9 (by decide) (by omega) (by omega) (fun h9 => ?_) (fun h9 => ?_)
    · skip
      refine r_iload_n X dX13_trail_27 rfl rfl ?_
      refine r_ireturn X dX13_trail_28 rfl (by first | omega | decide | (simp only [rmL, rmA]; omega)) (by first | omega | decide | (simp only [rmL, rmA]; omega)) ?_
      obtain rfl : j = n := by omega
      exact ⟨rfl, rfl⟩
    · skip
      refine r_iload_n X dX13_trail_12 rfl rfl ?_
      refine r_aload_n X dX13_trail_13 rfl rfl ?_
      refine r_getR X dX13_trail_14 fX13_22 (by assumption) (by assumption) ?_
      refine r_iload_n X dX13_trail_17 rfl rfl ?_
      refine r_ialdN X dX13_trail_18 (by assumption) (by omega) (by omega) (by first | assumption | rfl) ?_
      refine r_iadd X dX13_trail_19 ?_
      refine r_istore_n X dX13_trail_20 rfl (by decide) rfl ?_
      first | refine r_iincN X dX13_trail_21 rfl (by decide) rfl ?_ | refine r_iinc X dX13_trail_21 rfl rfl (by decide) rfl ?_
      refine r_goto (tgt := 4) X dX13_trail_24 (by decide) ?_
      exact ih (by omega)
  refine r_iconst (v := 0) X dX13_trail_0 (by decide) ?_
  refine r_istore_n X dX13_trail_1 rfl (by decide) rfl ?_
  refine r_iconst (v := nI 0) X dX13_trail_2 (by decide) ?_
  refine r_istore_n X dX13_trail_3 rfl (by decide) rfl ?_
  exact H 0 (by omega)
def mCount (I : Mem) (g n : Nat) (x : Int32) : Int32 := if x = 0 then nI n else if x = 1 then I g 5 else if x = 2 then I g 31 else if x = 3 then I g 38 else if x = 4 then I g 6 else if x = 5 then mTrail I g n else if x = 6 then I g 23 else -1
set_option maxHeartbeats 2000000 in
set_option maxRecDepth 20000 in
/-- SledHouseModel.count -/
theorem c_mCount {E : Ev} (GE : Glob E) (S : Nat → Option (Nat × Nat)) (I : Nat → Nat → Int32) (V : Nat → Nat → Option Nat) (J : Nat → Nat → Int64) (N : Nat) (g n : Nat) (x : Int32) (hM : MdSh S V g) (h0 : I g 0 = 0) (hn : I g 4 = nI n) (hn12 : n ≤ 12) : Ct E yX13_count cX13_count 2 (some .int) (rmL 1) [.ref g, .int x] (S, I, V, J, N) (fun v w' => v = some (.int (mCount I g n x)) ∧ w' = (S, I, V, J, N)) := by
  refine Ct.start GE (by decide) rfl (Nat.le_of_ble_eq_true rfl) (fun M X => ?_)
  have X : Cx E M RX13 cX13_count 2 (rmL 1) (some .int) "count" := X
  refine r_loc (L' := [some (.ref g), some (.int x)]) rfl ?_
  obtain ⟨hs0, v8, v9, v10, v11, v16, v17, v18, v19, v20, s1, s2, s3, s4, s5, s6, s7, s8, hOt, hTe, hKt⟩ := id hM
  refine r_aload_n X dX13_count_0 rfl rfl ?_
  refine r_iconst (v := 0) X dX13_count_1 (by decide) ?_
  refine r_putI X dX13_count_2 fX13_1 wX13_1 (by assumption) rfl rfl ?_
  refine r_world (w' := (S, I, V, J, N)) (by rw [up2_id I h0]) ?_
  refine r_iload_n X dX13_count_5 rfl rfl ?_
  refine r_sw (0) (fun h6_0 => ?_) (fun h6_0 => ?_)
  · skip
    refine r_tableIn (off := 42) (tgt := 48) X dX13_count_6 (by rw [h6_0]; decide) (by rw [h6_0]; decide) (by rw [h6_0]; rfl) (by decide) ?_
    refine r_aload_n X dX13_count_48 rfl rfl ?_
    refine r_getI X dX13_count_49 fX13_91 (by assumption) (by first | assumption | rfl) ?_
    refine r_ireturn X dX13_count_52 rfl (by first | omega | decide | (simp only [rmL, rmA]; omega)) (by first | omega | decide | (simp only [rmL, rmA]; omega)) ?_
    exact ⟨by simp [mCount, *], rfl⟩
  · skip
    refine r_sw (1) (fun h6_1 => ?_) (fun h6_1 => ?_)
    · skip
      refine r_tableIn (off := 47) (tgt := 53) X dX13_count_6 (by rw [h6_1]; decide) (by rw [h6_1]; decide) (by rw [h6_1]; rfl) (by decide) ?_
      refine r_aload_n X dX13_count_53 rfl rfl ?_
      refine r_getI X dX13_count_54 fX13_94 (by assumption) (by first | assumption | rfl) ?_
      refine r_ireturn X dX13_count_57 rfl (by first | omega | decide | (simp only [rmL, rmA]; omega)) (by first | omega | decide | (simp only [rmL, rmA]; omega)) ?_
      exact ⟨by simp [mCount, *], rfl⟩
    · skip
      refine r_sw (2) (fun h6_2 => ?_) (fun h6_2 => ?_)
      · skip
        refine r_tableIn (off := 52) (tgt := 58) X dX13_count_6 (by rw [h6_2]; decide) (by rw [h6_2]; decide) (by rw [h6_2]; rfl) (by decide) ?_
        refine r_aload_n X dX13_count_58 rfl rfl ?_
        refine r_getI X dX13_count_59 fX13_227 (by assumption) (by first | assumption | rfl) ?_
        refine r_ireturn X dX13_count_62 rfl (by first | omega | decide | (simp only [rmL, rmA]; omega)) (by first | omega | decide | (simp only [rmL, rmA]; omega)) ?_
        exact ⟨by simp [mCount, *], rfl⟩
      · skip
        refine r_sw (3) (fun h6_3 => ?_) (fun h6_3 => ?_)
        · skip
          refine r_tableIn (off := 57) (tgt := 63) X dX13_count_6 (by rw [h6_3]; decide) (by rw [h6_3]; decide) (by rw [h6_3]; rfl) (by decide) ?_
          refine r_aload_n X dX13_count_63 rfl rfl ?_
          refine r_getI X dX13_count_64 fX13_250 (by assumption) (by first | assumption | rfl) ?_
          refine r_ireturn X dX13_count_67 rfl (by first | omega | decide | (simp only [rmL, rmA]; omega)) (by first | omega | decide | (simp only [rmL, rmA]; omega)) ?_
          exact ⟨by simp [mCount, *], rfl⟩
        · skip
          refine r_sw (4) (fun h6_4 => ?_) (fun h6_4 => ?_)
          · skip
            refine r_tableIn (off := 62) (tgt := 68) X dX13_count_6 (by rw [h6_4]; decide) (by rw [h6_4]; decide) (by rw [h6_4]; rfl) (by decide) ?_
            refine r_aload_n X dX13_count_68 rfl rfl ?_
            refine r_getI X dX13_count_69 fX13_100 (by assumption) (by first | assumption | rfl) ?_
            refine r_ireturn X dX13_count_72 rfl (by first | omega | decide | (simp only [rmL, rmA]; omega)) (by first | omega | decide | (simp only [rmL, rmA]; omega)) ?_
            exact ⟨by simp [mCount, *], rfl⟩
          · skip
            refine r_sw (5) (fun h6_5 => ?_) (fun h6_5 => ?_)
            · skip
              refine r_tableIn (off := 67) (tgt := 73) X dX13_count_6 (by rw [h6_5]; decide) (by rw [h6_5]; decide) (by rw [h6_5]; rfl) (by decide) ?_
              refine r_aload_n X dX13_count_73 rfl rfl ?_
              refine q_callV X dX13_count_74 mX13_412 cwX13_trail (c_mTrail GE S I V J N g n hM hn hn12) rfl (by assumption) rfl rfl rfl (Nat.le_of_ble_eq_true rfl) ⟨Nat.le_of_ble_eq_true rfl, Nat.le_of_ble_eq_true rfl⟩ ⟨(by first | omega | decide | (simp only [rmL, rmA]; omega)), (by first | omega | decide | (simp only [rmL, rmA]; omega))⟩ ?_
              rintro _ _ ⟨rfl, rfl⟩
              refine r_ireturn X dX13_count_77 rfl (by first | omega | decide | (simp only [rmL, rmA]; omega)) (by first | omega | decide | (simp only [rmL, rmA]; omega)) ?_
              exact ⟨by simp [mCount, *], rfl⟩
            · skip
              refine r_sw (6) (fun h6_6 => ?_) (fun h6_6 => ?_)
              · skip
                refine r_tableIn (off := 72) (tgt := 78) X dX13_count_6 (by rw [h6_6]; decide) (by rw [h6_6]; decide) (by rw [h6_6]; rfl) (by decide) ?_
                refine r_aload_n X dX13_count_78 rfl rfl ?_
                refine r_getI X dX13_count_79 fX13_221 (by assumption) (by first | assumption | rfl) ?_
                refine r_ireturn X dX13_count_82 rfl (by first | omega | decide | (simp only [rmL, rmA]; omega)) (by first | omega | decide | (simp only [rmL, rmA]; omega)) ?_
                exact ⟨by simp [mCount, *], rfl⟩
              · skip
                refine r_tableOut (tgt := 83) X dX13_count_6 (by have e0 := lv_neT (a := 0) h6_0 (by decide); have e1 := lv_neT (a := 1) h6_1 (by decide); have e2 := lv_neT (a := 2) h6_2 (by decide); have e3 := lv_neT (a := 3) h6_3 (by decide); have e4 := lv_neT (a := 4) h6_4 (by decide); have e5 := lv_neT (a := 5) h6_5 (by decide); have e6 := lv_neT (a := 6) h6_6 (by decide); omega) (by decide) ?_
                refine r_iconst (v := -1) X dX13_count_83 (by decide) ?_
                refine r_ireturn X dX13_count_84 rfl (by first | omega | decide | (simp only [rmL, rmA]; omega)) (by first | omega | decide | (simp only [rmL, rmA]; omega)) ?_
                exact ⟨by simp [mCount, *], rfl⟩
