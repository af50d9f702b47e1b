/-! ===== SledHouse: questions about teams ===== -/
abbrev tm (h i : Nat) : Nat := h + 9 + 7 + 10 * i
def hDid (I : Mem) (h c : Nat) (x : Int32) : Int32 := match ixI x c with
  | none => -1
  | some i => I (tm h i) 14
set_option maxHeartbeats 2000000 in
set_option maxRecDepth 20000 in
/-- SledHouse.did -/
theorem c_hDid {E : Ev} (GE : Glob E) (S : Nat → Option (Nat × Nat)) (I : Nat → Nat → Int32) (V : Nat → Nat → Option Nat) (J : Nat → Nat → Int64) (N : Nat) (h c : Nat) (x : Int32) (hH : HouseSh S V h) (hc : I (h + 9) 2 = nI c) (hc6 : c ≤ 6) : Ct E yX10_did cX10_did 2 (some .int) (rmL 1) [.ref h, .int x] (S, I, V, J, N) (fun v w' => v = some (.int (hDid I h c x)) ∧ w' = (S, I, V, J, N)) := by
  refine Ct.start GE (by decide) rfl (Nat.le_of_ble_eq_true rfl) (fun M X => ?_)
  have X : Cx E M RX10 cX10_did 2 (rmL 1) (some .int) "did" := X
  refine r_loc (L' := [some (.ref h), some (.int x)]) rfl ?_
  obtain ⟨hs0, hv0, hv1, hv2, hv3, hv4, hv5, hTp, hs3, hPl, hLw, hRc, hs76, hGh, hRow⟩ := id hH
  obtain ⟨rs0, rv0, rv1, rTr, rs6, rTe⟩ := id hRc
  have qs0 := rTr.1
  have ts0 := hTp.1
  have ls0 := hLw.1
  rcases hx : ixI x c with _ | i
  · skip
    refine r_aload_n X dX10_did_0 rfl rfl ?_
    refine r_iload_n X dX10_did_1 rfl rfl ?_
    refine q_callV X dX10_did_2 mX10_153 cwX10_isTeam (c_hIsTeam GE S I V J N h c x hH hc) rfl (by assumption) rfl rfl rfl (Nat.le_of_ble_eq_true rfl) ⟨Nat.le_of_ble_eq_true rfl, Nat.le_of_ble_eq_true rfl⟩ ⟨(by first | omega | decide | (simp only [rmL, rmA]; omega)), (by first | omega | decide | (simp only [rmL, rmA]; omega))⟩ ?_
    rintro _ _ ⟨rfl, rfl⟩
    refine r_if_eq (tgt := 23) X dX10_did_5 (by decide) (fun h5 => ?_) (fun h5 => ?_)
    · skip
      refine r_iconst (v := -1) X dX10_did_23 (by decide) ?_
      refine r_ireturn X dX10_did_24 rfl (by first | omega | decide | (simp only [rmL, rmA]; omega)) (by first | omega | decide | (simp only [rmL, rmA]; omega)) ?_
      exact ⟨by simp [hDid, hx], rfl⟩
    · skip
      exact (ix_f hx h5).elim
  · skip
    obtain ⟨hi, rfl⟩ := ixI_some (by omega) hx
    have te := rTe i (by omega)
    have te1 := te.1
    have te2 := te.2
    obtain ⟨as0, av0, av1, av2, av3, aD, aG, as8, as9⟩ := id te2
    obtain ⟨ds0, dv0, dv1, dv2, ds1, ds2, ds3⟩ := id aD
    obtain ⟨gs0, gv0, gv1, gs1, gs2⟩ := id aG
    refine r_aload_n X dX10_did_0 rfl rfl ?_
    refine r_iload_n X dX10_did_1 rfl rfl ?_
    refine q_callV X dX10_did_2 mX10_153 cwX10_isTeam (c_hIsTeam GE S I V J N h c _ hH hc) rfl (by assumption) rfl rfl rfl (Nat.le_of_ble_eq_true rfl) ⟨Nat.le_of_ble_eq_true rfl, Nat.le_of_ble_eq_true rfl⟩ ⟨(by first | omega | decide | (simp only [rmL, rmA]; omega)), (by first | omega | decide | (simp only [rmL, rmA]; omega))⟩ ?_
    rintro _ _ ⟨rfl, rfl⟩
    refine r_if_eq (tgt := 23) X dX10_did_5 (by decide) (fun h5 => ?_) (fun h5 => ?_)
    · skip
      exact (ix_t hx h5).elim
    · skip
      refine r_aload_n X dX10_did_8 rfl rfl ?_
      refine r_getR X dX10_did_9 fX10_32 (by assumption) (by assumption) ?_
      refine r_getR X dX10_did_12 fX10_145 (by assumption) (by assumption) ?_
      refine r_iload_n X dX10_did_15 rfl rfl ?_
      refine r_aaldN X dX10_did_16 (by assumption) (by decide) rfl (by omega) (by omega) (by assumption) ?_
      refine r_getI X dX10_did_17 fX10_239 (by assumption) (by first | assumption | rfl) ?_
      refine r_goto (tgt := 24) X dX10_did_20 (by decide) ?_
      refine r_ireturn X dX10_did_24 rfl (by first | omega | decide | (simp only [rmL, rmA]; omega)) (by first | omega | decide | (simp only [rmL, rmA]; omega)) ?_
      exact ⟨by simp [hDid, hx], rfl⟩
def tAbout (I : Mem) (t r l : Nat) (y : Int32) : Int32 :=
  if y = 0 then I t 8 else if y = 1 then I t 10 else if y = 2 then I t 11 else if y = 3 then tWay I r t l else if y = 4 then I (t + 1) 4 else if y = 5 then I (t + 1) 5 else if y = 6 then I (t + 1) 3 - I (t + 1) 4 - I (t + 1) 5 else if y = 7 then tLoad I t else if y = 8 then I t 9 else if y = 9 then I t 12 else if y = 10 then I t 13 else if y = 11 then I t 7 else if y = 12 then I t 6 else -1
def tL (I : Mem) (t : Nat) : Nat := (I t 10).toNatClampNeg
def hAbout (I : Mem) (h c : Nat) (x y : Int32) : Int32 := match ixI x c with
  | none => -1
  | some i => tAbout I (tm h i) (h + 9 + 1) (tL I (tm h i)) y
set_option maxHeartbeats 2000000 in
set_option maxRecDepth 20000 in
/-- SledHouse.about -/
theorem c_hAbout {E : Ev} (GE : Glob E) (S : Nat → Option (Nat × Nat)) (I : Nat → Nat → Int32) (V : Nat → Nat → Option Nat) (J : Nat → Nat → Int64) (N : Nat) (h c : Nat) (x y : Int32) (hH : HouseSh S V h) (hc : I (h + 9) 2 = nI c) (hc6 : c ≤ 6) (hl : ∀ i, i < c → I (tm h i) 10 = nI (tL I (tm h i)) ∧ tL I (tm h i) ≤ 12) : Ct E yX10_about cX10_about 4 (some .int) (rmL 1) [.ref h, .int x, .int y] (S, I, V, J, N) (fun v w' => v = some (.int (hAbout I h c x y)) ∧ w' = (S, I, V, J, N)) := by
  refine Ct.start GE (by decide) rfl (Nat.le_of_ble_eq_true rfl) (fun M X => ?_)
  have X : Cx E M RX10 cX10_about 4 (rmL 1) (some .int) "about" := X
  refine r_loc (L' := [some (.ref h), some (.int x), some (.int y), none]) rfl ?_
  obtain ⟨hs0, hv0, hv1, hv2, hv3, hv4, hv5, hTp, hs3, hPl, hLw, hRc, hs76, hGh, hRow⟩ := id hH
  obtain ⟨rs0, rv0, rv1, rTr, rs6, rTe⟩ := id hRc
  have qs0 := rTr.1
  have ts0 := hTp.1
  have ls0 := hLw.1
  rcases hx : ixI x c with _ | i
  · skip
    refine r_aload_n X dX10_about_0 rfl rfl ?_
    refine r_iload_n X dX10_about_1 rfl rfl ?_
    refine q_callV X dX10_about_2 mX10_153 cwX10_isTeam (c_hIsTeam GE S I V J N h c x hH hc) rfl (by assumption) rfl rfl rfl (Nat.le_of_ble_eq_true rfl) ⟨Nat.le_of_ble_eq_true rfl, Nat.le_of_ble_eq_true rfl⟩ ⟨(by first | omega | decide | (simp only [rmL, rmA]; omega)), (by first | omega | decide | (simp only [rmL, rmA]; omega))⟩ ?_
    rintro _ _ ⟨rfl, rfl⟩
    refine r_if_ne (tgt := 10) X dX10_about_5 (by decide) (fun h5 => ?_) (fun h5 => ?_)
    · skip
      exact (ix_f hx h5).elim
    · skip
      refine r_iconst (v := -1) X dX10_about_8 (by decide) ?_
      refine r_ireturn X dX10_about_9 rfl (by first | omega | decide | (simp only [rmL, rmA]; omega)) (by first | omega | decide | (simp only [rmL, rmA]; omega)) ?_
      exact ⟨by simp [hAbout, hx], rfl⟩
  · skip
    obtain ⟨hi, rfl⟩ := ixI_some (by omega) hx
    have te := rTe i (by omega)
    have te1 := te.1
    have te2 := te.2
    obtain ⟨as0, av0, av1, av2, av3, aD, aG, as8, as9⟩ := id te2
    obtain ⟨ds0, dv0, dv1, dv2, ds1, ds2, ds3⟩ := id aD
    obtain ⟨gs0, gv0, gv1, gs1, gs2⟩ := id aG
    obtain ⟨hl1, hl2⟩ := hl i hi
    refine r_aload_n X dX10_about_0 rfl rfl ?_
    refine r_iload_n X dX10_about_1 rfl rfl ?_
    refine q_callV X dX10_about_2 mX10_153 cwX10_isTeam (c_hIsTeam GE S I V J N h c _ hH hc) rfl (by assumption) rfl rfl rfl (Nat.le_of_ble_eq_true rfl) ⟨Nat.le_of_ble_eq_true rfl, Nat.le_of_ble_eq_true rfl⟩ ⟨(by first | omega | decide | (simp only [rmL, rmA]; omega)), (by first | omega | decide | (simp only [rmL, rmA]; omega))⟩ ?_
    rintro _ _ ⟨rfl, rfl⟩
    refine r_if_ne (tgt := 10) X dX10_about_5 (by decide) (fun h5 => ?_) (fun h5 => ?_)
    · skip
      refine r_aload_n X dX10_about_10 rfl rfl ?_
      refine r_getR X dX10_about_11 fX10_32 (by assumption) (by assumption) ?_
      refine r_getR X dX10_about_14 fX10_145 (by assumption) (by assumption) ?_
      refine r_iload_n X dX10_about_17 rfl rfl ?_
      refine r_aaldN X dX10_about_18 (by assumption) (by decide) rfl (by omega) (by omega) (by assumption) ?_
      refine r_astore_n X dX10_about_19 rfl (by decide) rfl ?_
      refine r_iload_n X dX10_about_20 rfl rfl ?_
      refine r_sw (0) (fun h21_0 => ?_) (fun h21_0 => ?_)
      · skip
        refine r_tableIn (off := 67) (tgt := 88) X dX10_about_21 (by rw [h21_0]; decide) (by rw [h21_0]; decide) (by rw [h21_0]; rfl) (by decide) ?_
        refine r_aload_n X dX10_about_88 rfl rfl ?_
        refine r_getI X dX10_about_89 fX10_179 (by assumption) (by first | assumption | rfl) ?_
        refine r_ireturn X dX10_about_92 rfl (by first | omega | decide | (simp only [rmL, rmA]; omega)) (by first | omega | decide | (simp only [rmL, rmA]; omega)) ?_
        refine ⟨?_, rfl⟩
        simp only [hAbout, hx]
        simp [tAbout, *]
      · skip
        refine r_sw (1) (fun h21_1 => ?_) (fun h21_1 => ?_)
        · skip
          refine r_tableIn (off := 72) (tgt := 93) X dX10_about_21 (by rw [h21_1]; decide) (by rw [h21_1]; decide) (by rw [h21_1]; rfl) (by decide) ?_
          refine r_aload_n X dX10_about_93 rfl rfl ?_
          refine r_getI X dX10_about_94 fX10_182 (by assumption) rfl ?_
          refine r_ireturn X dX10_about_97 rfl (by first | omega | decide | (simp only [rmL, rmA]; omega)) (by first | omega | decide | (simp only [rmL, rmA]; omega)) ?_
          refine ⟨?_, rfl⟩
          simp only [hAbout, hx]
          simp [tAbout, *]
        · skip
          refine r_sw (2) (fun h21_2 => ?_) (fun h21_2 => ?_)
          · skip
            refine r_tableIn (off := 77) (tgt := 98) X dX10_about_21 (by rw [h21_2]; decide) (by rw [h21_2]; decide) (by rw [h21_2]; rfl) (by decide) ?_
            refine r_aload_n X dX10_about_98 rfl rfl ?_
            refine r_getI X dX10_about_99 fX10_185 (by assumption) (by first | assumption | rfl) ?_
            refine r_ireturn X dX10_about_102 rfl (by first | omega | decide | (simp only [rmL, rmA]; omega)) (by first | omega | decide | (simp only [rmL, rmA]; omega)) ?_
            refine ⟨?_, rfl⟩
            simp only [hAbout, hx]
            simp [tAbout, *]
          · skip
            refine r_sw (3) (fun h21_3 => ?_) (fun h21_3 => ?_)
            · skip
              refine r_tableIn (off := 82) (tgt := 103) X dX10_about_21 (by rw [h21_3]; decide) (by rw [h21_3]; decide) (by rw [h21_3]; rfl) (by decide) ?_
              refine r_aload_n X dX10_about_103 rfl rfl ?_
              refine r_aload_n X dX10_about_104 rfl rfl ?_
              refine r_getR X dX10_about_105 fX10_32 (by assumption) (by assumption) ?_
              refine r_getR X dX10_about_108 fX10_81 (by assumption) (by assumption) ?_
              refine q_callV X dX10_about_111 mX10_188 cwX8_way (c_tWay GE S I V J N _ (h + 9 + 1) _ te2 rTr hl1 hl2) rfl (by assumption) rfl rfl rfl (Nat.le_of_ble_eq_true rfl) ⟨Nat.le_of_ble_eq_true rfl, Nat.le_of_ble_eq_true rfl⟩ ⟨(by first | omega | decide | (simp only [rmL, rmA]; omega)), (by first | omega | decide | (simp only [rmL, rmA]; omega))⟩ ?_
              rintro _ _ ⟨rfl, rfl⟩
              refine r_ireturn X dX10_about_114 rfl (by first | omega | decide | (simp only [rmL, rmA]; omega)) (by first | omega | decide | (simp only [rmL, rmA]; omega)) ?_
              refine ⟨?_, rfl⟩
              simp only [hAbout, hx]
              simp [tAbout, *]
            · skip
              refine r_sw (4) (fun h21_4 => ?_) (fun h21_4 => ?_)
              · skip
                refine r_tableIn (off := 94) (tgt := 115) X dX10_about_21 (by rw [h21_4]; decide) (by rw [h21_4]; decide) (by rw [h21_4]; rfl) (by decide) ?_
                refine r_aload_n X dX10_about_115 rfl rfl ?_
                refine r_getR X dX10_about_116 fX10_192 (by assumption) (by assumption) ?_
                refine r_getI X dX10_about_119 fX10_196 (by assumption) (by first | assumption | rfl) ?_
                refine r_ireturn X dX10_about_122 rfl (by first | omega | decide | (simp only [rmL, rmA]; omega)) (by first | omega | decide | (simp only [rmL, rmA]; omega)) ?_
                refine ⟨?_, rfl⟩
                simp only [hAbout, hx]
                simp [tAbout, *]
              · skip
                refine r_sw (5) (fun h21_5 => ?_) (fun h21_5 => ?_)
                · skip
                  refine r_tableIn (off := 102) (tgt := 123) X dX10_about_21 (by rw [h21_5]; decide) (by rw [h21_5]; decide) (by rw [h21_5]; rfl) (by decide) ?_
                  refine r_aload_n X dX10_about_123 rfl rfl ?_
                  refine r_getR X dX10_about_124 fX10_192 (by assumption) (by assumption) ?_
                  refine r_getI X dX10_about_127 fX10_201 (by assumption) (by first | assumption | rfl) ?_
                  refine r_ireturn X dX10_about_130 rfl (by first | omega | decide | (simp only [rmL, rmA]; omega)) (by first | omega | decide | (simp only [rmL, rmA]; omega)) ?_
                  refine ⟨?_, rfl⟩
                  simp only [hAbout, hx]
                  simp [tAbout, *]
                · skip
                  refine r_sw (6) (fun h21_6 => ?_) (fun h21_6 => ?_)
                  · skip
                    refine r_tableIn (off := 110) (tgt := 131) X dX10_about_21 (by rw [h21_6]; decide) (by rw [h21_6]; decide) (by rw [h21_6]; rfl) (by decide) ?_
                    refine r_aload_n X dX10_about_131 rfl rfl ?_
                    refine r_getR X dX10_about_132 fX10_192 (by assumption) (by assumption) ?_
                    refine r_getI X dX10_about_135 fX10_204 (by assumption) (by first | assumption | rfl) ?_
                    refine r_aload_n X dX10_about_138 rfl rfl ?_
                    refine r_getR X dX10_about_139 fX10_192 (by assumption) (by assumption) ?_
                    refine r_getI X dX10_about_142 fX10_196 (by assumption) (by first | assumption | rfl) ?_
                    refine r_isub X dX10_about_145 ?_
                    refine r_aload_n X dX10_about_146 rfl rfl ?_
                    refine r_getR X dX10_about_147 fX10_192 (by assumption) (by assumption) ?_
                    refine r_getI X dX10_about_150 fX10_201 (by assumption) (by first | assumption | rfl) ?_
                    refine r_isub X dX10_about_153 ?_
                    refine r_ireturn X dX10_about_154 rfl (by first | omega | decide | (simp only [rmL, rmA]; omega)) (by first | omega | decide | (simp only [rmL, rmA]; omega)) ?_
                    refine ⟨?_, rfl⟩
                    simp only [hAbout, hx]
                    simp [tAbout, *]
                  · skip
                    refine r_sw (7) (fun h21_7 => ?_) (fun h21_7 => ?_)
                    · skip
                      refine r_tableIn (off := 134) (tgt := 155) X dX10_about_21 (by rw [h21_7]; decide) (by rw [h21_7]; decide) (by rw [h21_7]; rfl) (by decide) ?_
                      refine r_aload_n X dX10_about_155 rfl rfl ?_
                      refine q_callV X dX10_about_156 mX10_205 cwX8_loadNow (c_tLoad GE S I V J N _ te2) rfl (by assumption) rfl rfl rfl (Nat.le_of_ble_eq_true rfl) ⟨Nat.le_of_ble_eq_true rfl, Nat.le_of_ble_eq_true rfl⟩ ⟨(by first | omega | decide | (simp only [rmL, rmA]; omega)), (by first | omega | decide | (simp only [rmL, rmA]; omega))⟩ ?_
                      rintro _ _ ⟨rfl, rfl⟩
                      refine r_ireturn X dX10_about_159 rfl (by first | omega | decide | (simp only [rmL, rmA]; omega)) (by first | omega | decide | (simp only [rmL, rmA]; omega)) ?_
                      refine ⟨?_, rfl⟩
                      simp only [hAbout, hx]
                      simp [tAbout, *]
                    · skip
                      refine r_sw (8) (fun h21_8 => ?_) (fun h21_8 => ?_)
                      · skip
                        refine r_tableIn (off := 139) (tgt := 160) X dX10_about_21 (by rw [h21_8]; decide) (by rw [h21_8]; decide) (by rw [h21_8]; rfl) (by decide) ?_
                        refine r_aload_n X dX10_about_160 rfl rfl ?_
                        refine r_getI X dX10_about_161 fX10_209 (by assumption) (by first | assumption | rfl) ?_
                        refine r_ireturn X dX10_about_164 rfl (by first | omega | decide | (simp only [rmL, rmA]; omega)) (by first | omega | decide | (simp only [rmL, rmA]; omega)) ?_
                        refine ⟨?_, rfl⟩
                        simp only [hAbout, hx]
                        simp [tAbout, *]
                      · skip
                        refine r_sw (9) (fun h21_9 => ?_) (fun h21_9 => ?_)
                        · skip
                          refine r_tableIn (off := 144) (tgt := 165) X dX10_about_21 (by rw [h21_9]; decide) (by rw [h21_9]; decide) (by rw [h21_9]; rfl) (by decide) ?_
                          refine r_aload_n X dX10_about_165 rfl rfl ?_
                          refine r_getI X dX10_about_166 fX10_212 (by assumption) (by first | assumption | rfl) ?_
                          refine r_ireturn X dX10_about_169 rfl (by first | omega | decide | (simp only [rmL, rmA]; omega)) (by first | omega | decide | (simp only [rmL, rmA]; omega)) ?_
                          refine ⟨?_, rfl⟩
                          simp only [hAbout, hx]
                          simp [tAbout, *]
                        · skip
                          refine r_sw (10) (fun h21_10 => ?_) (fun h21_10 => ?_)
                          · skip
                            refine r_tableIn (off := 149) (tgt := 170) X dX10_about_21 (by rw [h21_10]; decide) (by rw [h21_10]; decide) (by rw [h21_10]; rfl) (by decide) ?_
                            refine r_aload_n X dX10_about_170 rfl rfl ?_
                            refine r_getI X dX10_about_171 fX10_215 (by assumption) (by first | assumption | rfl) ?_
                            refine r_ireturn X dX10_about_174 rfl (by first | omega | decide | (simp only [rmL, rmA]; omega)) (by first | omega | decide | (simp only [rmL, rmA]; omega)) ?_
                            refine ⟨?_, rfl⟩
                            simp only [hAbout, hx]
                            simp [tAbout, *]
                          · skip
                            refine r_sw (11) (fun h21_11 => ?_) (fun h21_11 => ?_)
                            · skip
                              refine r_tableIn (off := 154) (tgt := 175) X dX10_about_21 (by rw [h21_11]; decide) (by rw [h21_11]; decide) (by rw [h21_11]; rfl) (by decide) ?_
                              refine r_aload_n X dX10_about_175 rfl rfl ?_
                              refine r_getI X dX10_about_176 fX10_159 (by assumption) (by first | assumption | rfl) ?_
                              refine r_ireturn X dX10_about_179 rfl (by first | omega | decide | (simp only [rmL, rmA]; omega)) (by first | omega | decide | (simp only [rmL, rmA]; omega)) ?_
                              refine ⟨?_, rfl⟩
                              simp only [hAbout, hx]
                              simp [tAbout, *]
                            · skip
                              refine r_sw (12) (fun h21_12 => ?_) (fun h21_12 => ?_)
                              · skip
                                refine r_tableIn (off := 159) (tgt := 180) X dX10_about_21 (by rw [h21_12]; decide) (by rw [h21_12]; decide) (by rw [h21_12]; rfl) (by decide) ?_
                                refine r_aload_n X dX10_about_180 rfl rfl ?_
                                refine r_getI X dX10_about_181 fX10_218 (by assumption) (by first | assumption | rfl) ?_
                                refine r_ireturn X dX10_about_184 rfl (by first | omega | decide | (simp only [rmL, rmA]; omega)) (by first | omega | decide | (simp only [rmL, rmA]; omega)) ?_
                                refine ⟨?_, rfl⟩
                                simp only [hAbout, hx]
                                simp [tAbout, *]
                              · skip
                                refine r_tableOut (tgt := 185) X dX10_about_21 (by have e0 := lv_neT (a := 0) h21_0 (by decide); have e1 := lv_neT (a := 1) h21_1 (by decide); have e2 := lv_neT (a := 2) h21_2 (by decide); have e3 := lv_neT (a := 3) h21_3 (by decide); have e4 := lv_neT (a := 4) h21_4 (by decide); have e5 := lv_neT (a := 5) h21_5 (by decide); have e6 := lv_neT (a := 6) h21_6 (by decide); have e7 := lv_neT (a := 7) h21_7 (by decide); have e8 := lv_neT (a := 8) h21_8 (by decide); have e9 := lv_neT (a := 9) h21_9 (by decide); have e10 := lv_neT (a := 10) h21_10 (by decide); have e11 := lv_neT (a := 11) h21_11 (by decide); have e12 := lv_neT (a := 12) h21_12 (by decide); omega) (by decide) ?_
                                refine r_iconst (v := -1) X dX10_about_185 (by decide) ?_
                                refine r_ireturn X dX10_about_186 rfl (by first | omega | decide | (simp only [rmL, rmA]; omega)) (by first | omega | decide | (simp only [rmL, rmA]; omega)) ?_
                                refine ⟨?_, rfl⟩
                                simp only [hAbout, hx]
                                simp [tAbout, *]
    · skip
      exact (ix_t hx h5).elim
def hDog (I : Mem) (h c : Nat) (x d y : Int32) : Int32 := match ixI x c with
  | none => -1
  | some i => match ixI d (I (tm h i + 1) 3).toNatClampNeg with
    | none => -1
    | some k => if y = 0 then I (tm h i + 1 + 1) k else if y = 1 then I (tm h i + 1 + 2) k else if y = 2 then I (tm h i + 1 + 3) k else -1
set_option maxHeartbeats 2000000 in
set_option maxRecDepth 20000 in
/-- SledHouse.dog -/
theorem c_hDog {E : Ev} (GE : Glob E) (S : Nat → Option (Nat × Nat)) (I : Nat → Nat → Int32) (V : Nat → Nat → Option Nat) (J : Nat → Nat → Int64) (N : Nat) (h c : Nat) (x d y : Int32) (hH : HouseSh S V h) (hc : I (h + 9) 2 = nI c) (hc6 : c ≤ 6) (hm : ∀ i, i < c → ∃ m, I (tm h i + 1) 3 = nI m ∧ m ≤ 16) : Ct E yX10_dog cX10_dog 5 (some .int) (rmL 1) [.ref h, .int x, .int d, .int y] (S, I, V, J, N) (fun v w' => v = some (.int (hDog I h c x d y)) ∧ w' = (S, I, V, J, N)) := by
  refine Ct.start GE (by decide) rfl (Nat.le_of_ble_eq_true rfl) (fun M X => ?_)
  have X : Cx E M RX10 cX10_dog 5 (rmL 1) (some .int) "dog" := X
  refine r_loc (L' := [some (.ref h), some (.int x), some (.int d), some (.int y), none]) rfl ?_
  obtain ⟨hs0, hv0, hv1, hv2, hv3, hv4, hv5, hTp, hs3, hPl, hLw, hRc, hs76, hGh, hRow⟩ := id hH
  obtain ⟨rs0, rv0, rv1, rTr, rs6, rTe⟩ := id hRc
  have qs0 := rTr.1
  have ts0 := hTp.1
  have ls0 := hLw.1
  rcases hx : ixI x c with _ | i
  · skip
    refine r_aload_n X dX10_dog_0 rfl rfl ?_
    refine r_iload_n X dX10_dog_1 rfl rfl ?_
    refine q_callV X dX10_dog_2 mX10_153 cwX10_isTeam (c_hIsTeam GE S I V J N h c x hH hc) rfl (by assumption) rfl rfl rfl (Nat.le_of_ble_eq_true rfl) ⟨Nat.le_of_ble_eq_true rfl, Nat.le_of_ble_eq_true rfl⟩ ⟨(by first | omega | decide | (simp only [rmL, rmA]; omega)), (by first | omega | decide | (simp only [rmL, rmA]; omega))⟩ ?_
    rintro _ _ ⟨rfl, rfl⟩
    refine r_if_ne (tgt := 10) X dX10_dog_5 (by decide) (fun h5 => ?_) (fun h5 => ?_)
    · skip
      exact (ix_f hx h5).elim
    · skip
      refine r_iconst (v := -1) X dX10_dog_8 (by decide) ?_
      refine r_ireturn X dX10_dog_9 rfl (by first | omega | decide | (simp only [rmL, rmA]; omega)) (by first | omega | decide | (simp only [rmL, rmA]; omega)) ?_
      exact ⟨by simp [hDog, hx], rfl⟩
  · skip
    obtain ⟨hi, rfl⟩ := ixI_some (by omega) hx
    have te := rTe i (by omega)
    have te1 := te.1
    have te2 := te.2
    obtain ⟨as0, av0, av1, av2, av3, aD, aG, as8, as9⟩ := id te2
    obtain ⟨ds0, dv0, dv1, dv2, ds1, ds2, ds3⟩ := id aD
    obtain ⟨gs0, gv0, gv1, gs1, gs2⟩ := id aG
    obtain ⟨m, hm3, hm6⟩ := hm i hi
    have hmc : (I (tm h i + 1) 3).toNatClampNeg = m := by rw [hm3]; exact nI_clamp (by omega)
    rcases hd : ixI d m with _ | k
    · skip
      refine r_aload_n X dX10_dog_0 rfl rfl ?_
      refine r_iload_n X dX10_dog_1 rfl rfl ?_
      refine q_callV X dX10_dog_2 mX10_153 cwX10_isTeam (c_hIsTeam GE S I V J N h c _ hH hc) rfl (by assumption) rfl rfl rfl (Nat.le_of_ble_eq_true rfl) ⟨Nat.le_of_ble_eq_true rfl, Nat.le_of_ble_eq_true rfl⟩ ⟨(by first | omega | decide | (simp only [rmL, rmA]; omega)), (by first | omega | decide | (simp only [rmL, rmA]; omega))⟩ ?_
      rintro _ _ ⟨rfl, rfl⟩
      refine r_if_ne (tgt := 10) X dX10_dog_5 (by decide) (fun h5 => ?_) (fun h5 => ?_)
      · skip
        refine r_aload_n X dX10_dog_10 rfl rfl ?_
        refine r_getR X dX10_dog_11 fX10_32 (by assumption) (by assumption) ?_
        refine r_getR X dX10_dog_14 fX10_145 (by assumption) (by assumption) ?_
        refine r_iload_n X dX10_dog_17 rfl rfl ?_
        refine r_aaldN X dX10_dog_18 (by assumption) (by decide) rfl (by omega) (by omega) (by assumption) ?_
        refine r_getR X dX10_dog_19 fX10_192 (by assumption) (by assumption) ?_
        refine r_astore X dX10_dog_22 (by decide) rfl ?_
        refine r_iload_n X dX10_dog_24 rfl rfl ?_
        refine r_if_lt (tgt := 37) X dX10_dog_25 (by decide) (fun h25 => ?_) (fun h25 => ?_)
        · skip
          refine r_iconst (v := -1) X dX10_dog_37 (by decide) ?_
          refine r_ireturn X dX10_dog_38 rfl (by first | omega | decide | (simp only [rmL, rmA]; omega)) (by first | omega | decide | (simp only [rmL, rmA]; omega)) ?_
          exact ⟨by simp [hDog, hx, hmc, hd], rfl⟩
        · skip
          refine r_iload_n X dX10_dog_28 rfl rfl ?_
          refine r_aload X dX10_dog_29 rfl ?_
          refine r_getI X dX10_dog_31 fX10_204 (by assumption) (by first | assumption | rfl) ?_
          refine r_icmp_lt (tgt := 39) X dX10_dog_34 (by decide) (fun h34 => ?_) (fun h34 => ?_)
          · skip
            exact ((ixI_none hd).elim (fun z => h25 z) (fun z => absurd h34 (Int32.not_lt.mpr z))).elim
          · skip
            refine r_iconst (v := -1) X dX10_dog_37 (by decide) ?_
            refine r_ireturn X dX10_dog_38 rfl (by first | omega | decide | (simp only [rmL, rmA]; omega)) (by first | omega | decide | (simp only [rmL, rmA]; omega)) ?_
            exact ⟨by simp [hDog, hx, hmc, hd], rfl⟩
      · skip
        exact (ix_t hx h5).elim
    · obtain ⟨hk, rfl⟩ := ixI_some (by omega) hd
      refine r_aload_n X dX10_dog_0 rfl rfl ?_
      refine r_iload_n X dX10_dog_1 rfl rfl ?_
      refine q_callV X dX10_dog_2 mX10_153 cwX10_isTeam (c_hIsTeam GE S I V J N h c _ hH hc) rfl (by assumption) rfl rfl rfl (Nat.le_of_ble_eq_true rfl) ⟨Nat.le_of_ble_eq_true rfl, Nat.le_of_ble_eq_true rfl⟩ ⟨(by first | omega | decide | (simp only [rmL, rmA]; omega)), (by first | omega | decide | (simp only [rmL, rmA]; omega))⟩ ?_
      rintro _ _ ⟨rfl, rfl⟩
      refine r_if_ne (tgt := 10) X dX10_dog_5 (by decide) (fun h5 => ?_) (fun h5 => ?_)
      · skip
        refine r_aload_n X dX10_dog_10 rfl rfl ?_
        refine r_getR X dX10_dog_11 fX10_32 (by assumption) (by assumption) ?_
        refine r_getR X dX10_dog_14 fX10_145 (by assumption) (by assumption) ?_
        refine r_iload_n X dX10_dog_17 rfl rfl ?_
        refine r_aaldN X dX10_dog_18 (by assumption) (by decide) rfl (by omega) (by omega) (by assumption) ?_
        refine r_getR X dX10_dog_19 fX10_192 (by assumption) (by assumption) ?_
        refine r_astore X dX10_dog_22 (by decide) rfl ?_
        refine r_iload_n X dX10_dog_24 rfl rfl ?_
        refine r_if_lt (tgt := 37) X dX10_dog_25 (by decide) (fun h25 => ?_) (fun h25 => ?_)
        · skip
          exact absurd h25 (nI_pos (by omega))
        · skip
          refine r_iload_n X dX10_dog_28 rfl rfl ?_
          refine r_aload X dX10_dog_29 rfl ?_
          refine r_getI X dX10_dog_31 fX10_204 (by assumption) (by first | assumption | rfl) ?_
          refine r_icmpN_lt (tgt := 39) X dX10_dog_34 (by decide) (by omega) (by omega) (fun h34 => ?_) (fun h34 => ?_)
          · skip
            refine r_iload_n X dX10_dog_39 rfl rfl ?_
            refine r_sw (0) (fun h40_0 => ?_) (fun h40_0 => ?_)
            · skip
              refine r_tableIn (off := 28) (tgt := 68) X dX10_dog_40 (by rw [h40_0]; decide) (by rw [h40_0]; decide) (by rw [h40_0]; rfl) (by decide) ?_
              refine r_aload X dX10_dog_68 rfl ?_
              refine r_getR X dX10_dog_70 fX10_221 (by assumption) (by assumption) ?_
              refine r_iload_n X dX10_dog_73 rfl rfl ?_
              refine r_ialdN X dX10_dog_74 (by assumption) (by omega) (by omega) (by first | assumption | rfl) ?_
              refine r_ireturn X dX10_dog_75 rfl (by first | omega | decide | (simp only [rmL, rmA]; omega)) (by first | omega | decide | (simp only [rmL, rmA]; omega)) ?_
              refine ⟨?_, rfl⟩
              simp only [hDog, hx, hmc, hd]
              simp [*]
            · skip
              refine r_sw (1) (fun h40_1 => ?_) (fun h40_1 => ?_)
              · skip
                refine r_tableIn (off := 36) (tgt := 76) X dX10_dog_40 (by rw [h40_1]; decide) (by rw [h40_1]; decide) (by rw [h40_1]; rfl) (by decide) ?_
                refine r_aload X dX10_dog_76 rfl ?_
                refine r_getR X dX10_dog_78 fX10_224 (by assumption) (by assumption) ?_
                refine r_iload_n X dX10_dog_81 rfl rfl ?_
                refine r_ialdN X dX10_dog_82 (by assumption) (by omega) (by omega) (by first | assumption | rfl) ?_
                refine r_ireturn X dX10_dog_83 rfl (by first | omega | decide | (simp only [rmL, rmA]; omega)) (by first | omega | decide | (simp only [rmL, rmA]; omega)) ?_
                refine ⟨?_, rfl⟩
                simp only [hDog, hx, hmc, hd]
                simp [*]
              · skip
                refine r_sw (2) (fun h40_2 => ?_) (fun h40_2 => ?_)
                · skip
                  refine r_tableIn (off := 44) (tgt := 84) X dX10_dog_40 (by rw [h40_2]; decide) (by rw [h40_2]; decide) (by rw [h40_2]; rfl) (by decide) ?_
                  refine r_aload X dX10_dog_84 rfl ?_
                  refine r_getR X dX10_dog_86 fX10_227 (by assumption) (by assumption) ?_
                  refine r_iload_n X dX10_dog_89 rfl rfl ?_
                  refine r_ialdN X dX10_dog_90 (by assumption) (by omega) (by omega) (by first | assumption | rfl) ?_
                  refine r_ireturn X dX10_dog_91 rfl (by first | omega | decide | (simp only [rmL, rmA]; omega)) (by first | omega | decide | (simp only [rmL, rmA]; omega)) ?_
                  refine ⟨?_, rfl⟩
                  simp only [hDog, hx, hmc, hd]
                  simp [*]
                · skip
                  refine r_tableOut (tgt := 92) X dX10_dog_40 (by have e0 := lv_neT (a := 0) h40_0 (by decide); have e1 := lv_neT (a := 1) h40_1 (by decide); have e2 := lv_neT (a := 2) h40_2 (by decide); omega) (by decide) ?_
                  refine r_iconst (v := -1) X dX10_dog_92 (by decide) ?_
                  refine r_ireturn X dX10_dog_93 rfl (by first | omega | decide | (simp only [rmL, rmA]; omega)) (by first | omega | decide | (simp only [rmL, rmA]; omega)) ?_
                  refine ⟨?_, rfl⟩
                  simp only [hDog, hx, hmc, hd]
                  simp [*]
          · skip
            omega
      · skip
        exact (ix_t hx h5).elim
def hTime (I : Mem) (h c n : Nat) (x p b : Int32) : Int32 := match ixI x c with
  | none => -1
  | some i => match ixI p (n + 1) with
    | none => -1
    | some k => if b = 0 then I (tm h i + 8) k else I (tm h i + 9) k
set_option maxHeartbeats 2000000 in
set_option maxRecDepth 20000 in
/-- SledHouse.time -/
theorem c_hTime {E : Ev} (GE : Glob E) (S : Nat → Option (Nat × Nat)) (I : Nat → Nat → Int32) (V : Nat → Nat → Option Nat) (J : Nat → Nat → Int64) (N : Nat) (h c n : Nat) (x p b : Int32) (hH : HouseSh S V h) (hc : I (h + 9) 2 = nI c) (hc6 : c ≤ 6) (hn : I (h + 9 + 1) 4 = nI n) (hn12 : n ≤ 12) : Ct E yX10_time cX10_time 5 (some .int) (rmL 1) [.ref h, .int x, .int p, .int b] (S, I, V, J, N) (fun v w' => v = some (.int (hTime I h c n x p b)) ∧ w' = (S, I, V, J, N)) := by
  refine Ct.start GE (by decide) rfl (Nat.le_of_ble_eq_true rfl) (fun M X => ?_)
  have X : Cx E M RX10 cX10_time 5 (rmL 1) (some .int) "time" := X
  refine r_loc (L' := [some (.ref h), some (.int x), some (.int p), some (.int b), none]) rfl ?_
  obtain ⟨hs0, hv0, hv1, hv2, hv3, hv4, hv5, hTp, hs3, hPl, hLw, hRc, hs76, hGh, hRow⟩ := id hH
  obtain ⟨rs0, rv0, rv1, rTr, rs6, rTe⟩ := id hRc
  have qs0 := rTr.1
  have ts0 := hTp.1
  have ls0 := hLw.1
  rcases hx : ixI x c with _ | i
  · skip
    refine r_aload_n X dX10_time_0 rfl rfl ?_
    refine r_iload_n X dX10_time_1 rfl rfl ?_
    refine q_callV X dX10_time_2 mX10_153 cwX10_isTeam (c_hIsTeam GE S I V J N h c x hH hc) rfl (by assumption) rfl rfl rfl (Nat.le_of_ble_eq_true rfl) ⟨Nat.le_of_ble_eq_true rfl, Nat.le_of_ble_eq_true rfl⟩ ⟨(by first | omega | decide | (simp only [rmL, rmA]; omega)), (by first | omega | decide | (simp only [rmL, rmA]; omega))⟩ ?_
    rintro _ _ ⟨rfl, rfl⟩
    refine r_if_eq (tgt := 16) X dX10_time_5 (by decide) (fun h5 => ?_) (fun h5 => ?_)
    · skip
      refine r_iconst (v := -1) X dX10_time_16 (by decide) ?_
      refine r_ireturn X dX10_time_17 rfl (by first | omega | decide | (simp only [rmL, rmA]; omega)) (by first | omega | decide | (simp only [rmL, rmA]; omega)) ?_
      exact ⟨by simp [hTime, hx], rfl⟩
    · skip
      exact (ix_f hx h5).elim
  · skip
    obtain ⟨hi, rfl⟩ := ixI_some (by omega) hx
    have te := rTe i (by omega)
    have te1 := te.1
    have te2 := te.2
    obtain ⟨as0, av0, av1, av2, av3, aD, aG, as8, as9⟩ := id te2
    obtain ⟨ds0, dv0, dv1, dv2, ds1, ds2, ds3⟩ := id aD
    obtain ⟨gs0, gv0, gv1, gs1, gs2⟩ := id aG
    rcases hd : ixI p (n + 1) with _ | k
    · skip
      refine r_aload_n X dX10_time_0 rfl rfl ?_
      refine r_iload_n X dX10_time_1 rfl rfl ?_
      refine q_callV X dX10_time_2 mX10_153 cwX10_isTeam (c_hIsTeam GE S I V J N h c _ hH hc) rfl (by assumption) rfl rfl rfl (Nat.le_of_ble_eq_true rfl) ⟨Nat.le_of_ble_eq_true rfl, Nat.le_of_ble_eq_true rfl⟩ ⟨(by first | omega | decide | (simp only [rmL, rmA]; omega)), (by first | omega | decide | (simp only [rmL, rmA]; omega))⟩ ?_
      rintro _ _ ⟨rfl, rfl⟩
      refine r_if_eq (tgt := 16) X dX10_time_5 (by decide) (fun h5 => ?_) (fun h5 => ?_)
      · skip
        exact (ix_t hx h5).elim
      · skip
        refine r_aload_n X dX10_time_8 rfl rfl ?_
        refine r_iload_n X dX10_time_9 rfl rfl ?_
        refine q_callV X dX10_time_10 mX10_230 cwX10_isPost (c_hIsPost GE S I V J N h n p hH hn hn12) rfl (by assumption) rfl rfl rfl (Nat.le_of_ble_eq_true rfl) ⟨Nat.le_of_ble_eq_true rfl, Nat.le_of_ble_eq_true rfl⟩ ⟨(by first | omega | decide | (simp only [rmL, rmA]; omega)), (by first | omega | decide | (simp only [rmL, rmA]; omega))⟩ ?_
        rintro _ _ ⟨rfl, rfl⟩
        refine r_if_ne (tgt := 18) X dX10_time_13 (by decide) (fun h13 => ?_) (fun h13 => ?_)
        · skip
          exact (ix_f hd h13).elim
        · skip
          refine r_iconst (v := -1) X dX10_time_16 (by decide) ?_
          refine r_ireturn X dX10_time_17 rfl (by first | omega | decide | (simp only [rmL, rmA]; omega)) (by first | omega | decide | (simp only [rmL, rmA]; omega)) ?_
          exact ⟨by simp [hTime, hx, hd], rfl⟩
    · obtain ⟨hk, rfl⟩ := ixI_some (by omega) hd
      refine r_aload_n X dX10_time_0 rfl rfl ?_
      refine r_iload_n X dX10_time_1 rfl rfl ?_
      refine q_callV X dX10_time_2 mX10_153 cwX10_isTeam (c_hIsTeam GE S I V J N h c _ hH hc) rfl (by assumption) rfl rfl rfl (Nat.le_of_ble_eq_true rfl) ⟨Nat.le_of_ble_eq_true rfl, Nat.le_of_ble_eq_true rfl⟩ ⟨(by first | omega | decide | (simp only [rmL, rmA]; omega)), (by first | omega | decide | (simp only [rmL, rmA]; omega))⟩ ?_
      rintro _ _ ⟨rfl, rfl⟩
      refine r_if_eq (tgt := 16) X dX10_time_5 (by decide) (fun h5 => ?_) (fun h5 => ?_)
      · skip
        exact (ix_t hx h5).elim
      · skip
        refine r_aload_n X dX10_time_8 rfl rfl ?_
        refine r_iload_n X dX10_time_9 rfl rfl ?_
        refine q_callV X dX10_time_10 mX10_230 cwX10_isPost (c_hIsPost GE S I V J N h n _ hH hn hn12) rfl (by assumption) rfl rfl rfl (Nat.le_of_ble_eq_true rfl) ⟨Nat.le_of_ble_eq_true rfl, Nat.le_of_ble_eq_true rfl⟩ ⟨(by first | omega | decide | (simp only [rmL, rmA]; omega)), (by first | omega | decide | (simp only [rmL, rmA]; omega))⟩ ?_
        rintro _ _ ⟨rfl, rfl⟩
        refine r_if_ne (tgt := 18) X dX10_time_13 (by decide) (fun h13 => ?_) (fun h13 => ?_)
        · skip
          refine r_aload_n X dX10_time_18 rfl rfl ?_
          refine r_getR X dX10_time_19 fX10_32 (by assumption) (by assumption) ?_
          refine r_getR X dX10_time_22 fX10_145 (by assumption) (by assumption) ?_
          refine r_iload_n X dX10_time_25 rfl rfl ?_
          refine r_aaldN X dX10_time_26 (by assumption) (by decide) rfl (by omega) (by omega) (by assumption) ?_
          refine r_astore X dX10_time_27 (by decide) rfl ?_
          refine r_iload_n X dX10_time_29 rfl rfl ?_
          refine r_if_eq (tgt := 43) X dX10_time_30 (by decide) (fun h30 => ?_) (fun h30 => ?_)
          · skip
            refine r_aload X dX10_time_43 rfl ?_
            refine r_getR X dX10_time_45 fX10_236 (by assumption) (by assumption) ?_
            refine r_iload_n X dX10_time_48 rfl rfl ?_
            refine r_ialdN X dX10_time_49 (by assumption) (by omega) (by omega) (by first | assumption | rfl) ?_
            refine r_ireturn X dX10_time_50 rfl (by first | omega | decide | (simp only [rmL, rmA]; omega)) (by first | omega | decide | (simp only [rmL, rmA]; omega)) ?_
            exact ⟨by simp [hTime, hx, hd, *], rfl⟩
          · skip
            refine r_aload X dX10_time_33 rfl ?_
            refine r_getR X dX10_time_35 fX10_233 (by assumption) (by assumption) ?_
            refine r_iload_n X dX10_time_38 rfl rfl ?_
            refine r_ialdN X dX10_time_39 (by assumption) (by omega) (by omega) (by first | assumption | rfl) ?_
            refine r_goto (tgt := 50) X dX10_time_40 (by decide) ?_
            refine r_ireturn X dX10_time_50 rfl (by first | omega | decide | (simp only [rmL, rmA]; omega)) (by first | omega | decide | (simp only [rmL, rmA]; omega)) ?_
            exact ⟨by simp [hTime, hx, hd, *], rfl⟩
        · skip
          exact (ix_t hd h13).elim
def hHome (I : Mem) (h c : Nat) (x : Int32) : Option Nat := match ixI x c with
  | none => none
  | some i => if I (tm h i) 8 = 2 then some i else none
theorem hHome_lt {I : Mem} {h c : Nat} {x : Int32} {i : Nat} (hc : c < 2 ^ 31) (hx : hHome I h c x = some i) : i < c ∧ x = nI i ∧ I (tm h i) 8 = 2 := by
  unfold hHome at hx
  cases hy : ixI x c with
  | none => rw [hy] at hx; cases hx
  | some j =>
    rw [hy] at hx
    obtain ⟨h1, h2⟩ := ixI_some hc hy
    simp only at hx
    split at hx
    · next q => cases hx; exact ⟨h1, h2, q⟩
    · cases hx
set_option maxHeartbeats 2000000 in
set_option maxRecDepth 20000 in
/-- SledHouse.isHome -/
theorem c_hIsHome {E : Ev} (GE : Glob E) (S : Nat → Option (Nat × Nat)) (I : Nat → Nat → Int32) (V : Nat → Nat → Option Nat) (J : Nat → Nat → Int64) (N : Nat) (h c : Nat) (x : Int32) (hH : HouseSh S V h) (hc : I (h + 9) 2 = nI c) (hc6 : c ≤ 6) : Ct E yX10_isHome cX10_isHome 2 (some .boolean) (rmL 1) [.ref h, .int x] (S, I, V, J, N) (fun v w' => v = some (.int (bI (hHome I h c x).isSome)) ∧ w' = (S, I, V, J, N)) := by
  refine Ct.start GE (by decide) rfl (Nat.le_of_ble_eq_true rfl) (fun M X => ?_)
  have X : Cx E M RX10 cX10_isHome 2 (rmL 1) (some .boolean) "isHome" := X
  refine r_loc (L' := [some (.ref h), some (.int x)]) rfl ?_
  obtain ⟨hs0, hv0, hv1, hv2, hv3, hv4, hv5, hTp, hs3, hPl, hLw, hRc, hs76, hGh, hRow⟩ := id hH
  obtain ⟨rs0, rv0, rv1, rTr, rs6, rTe⟩ := id hRc
  have qs0 := rTr.1
  have ts0 := hTp.1
  have ls0 := hLw.1
  rcases hx : ixI x c with _ | i
  · skip
    refine r_aload_n X dX10_isHome_0 rfl rfl ?_
    refine r_iload_n X dX10_isHome_1 rfl rfl ?_
    refine q_callV X dX10_isHome_2 mX10_153 cwX10_isTeam (c_hIsTeam GE S I V J N h c x hH hc) rfl (by assumption) rfl rfl rfl (Nat.le_of_ble_eq_true rfl) ⟨Nat.le_of_ble_eq_true rfl, Nat.le_of_ble_eq_true rfl⟩ ⟨(by first | omega | decide | (simp only [rmL, rmA]; omega)), (by first | omega | decide | (simp only [rmL, rmA]; omega))⟩ ?_
    rintro _ _ ⟨rfl, rfl⟩
    refine r_if_eq (tgt := 28) X dX10_isHome_5 (by decide) (fun h5 => ?_) (fun h5 => ?_)
    · skip
      refine r_iconst (v := 0) X dX10_isHome_28 (by decide) ?_
      refine r_ireturn X dX10_isHome_29 rfl (by first | omega | decide | (simp only [rmL, rmA]; omega)) (by first | omega | decide | (simp only [rmL, rmA]; omega)) ?_
      exact ⟨by simp [hHome, hx] <;> rfl, rfl⟩
    · skip
      exact (ix_f hx h5).elim
  · skip
    obtain ⟨hi, rfl⟩ := ixI_some (by omega) hx
    have te := rTe i (by omega)
    have te1 := te.1
    have te2 := te.2
    obtain ⟨as0, av0, av1, av2, av3, aD, aG, as8, as9⟩ := id te2
    obtain ⟨ds0, dv0, dv1, dv2, ds1, ds2, ds3⟩ := id aD
    obtain ⟨gs0, gv0, gv1, gs1, gs2⟩ := id aG
    refine r_aload_n X dX10_isHome_0 rfl rfl ?_
    refine r_iload_n X dX10_isHome_1 rfl rfl ?_
    refine q_callV X dX10_isHome_2 mX10_153 cwX10_isTeam (c_hIsTeam GE S I V J N h c _ hH hc) rfl (by assumption) rfl rfl rfl (Nat.le_of_ble_eq_true rfl) ⟨Nat.le_of_ble_eq_true rfl, Nat.le_of_ble_eq_true rfl⟩ ⟨(by first | omega | decide | (simp only [rmL, rmA]; omega)), (by first | omega | decide | (simp only [rmL, rmA]; omega))⟩ ?_
    rintro _ _ ⟨rfl, rfl⟩
    refine r_if_eq (tgt := 28) X dX10_isHome_5 (by decide) (fun h5 => ?_) (fun h5 => ?_)
    · skip
      exact (ix_t hx h5).elim
    · skip
      refine r_aload_n X dX10_isHome_8 rfl rfl ?_
      refine r_getR X dX10_isHome_9 fX10_32 (by assumption) (by assumption) ?_
      refine r_getR X dX10_isHome_12 fX10_145 (by assumption) (by assumption) ?_
      refine r_iload_n X dX10_isHome_15 rfl rfl ?_
      refine r_aaldN X dX10_isHome_16 (by assumption) (by decide) rfl (by omega) (by omega) (by assumption) ?_
      refine r_getI X dX10_isHome_17 fX10_179 (by assumption) (by first | assumption | rfl) ?_
      refine r_iconst (v := 2) X dX10_isHome_20 (by decide) ?_
      refine r_icmp_ne (tgt := 28) X dX10_isHome_21 (by decide) (fun h21 => ?_) (fun h21 => ?_)
      · skip
        refine r_iconst (v := 0) X dX10_isHome_28 (by decide) ?_
        refine r_ireturn X dX10_isHome_29 rfl (by first | omega | decide | (simp only [rmL, rmA]; omega)) (by first | omega | decide | (simp only [rmL, rmA]; omega)) ?_
        exact ⟨by simp [hHome, hx, h21] <;> rfl, rfl⟩
      · skip
        refine r_iconst (v := 1) X dX10_isHome_24 (by decide) ?_
        refine r_goto (tgt := 29) X dX10_isHome_25 (by decide) ?_
        refine r_ireturn X dX10_isHome_29 rfl (by first | omega | decide | (simp only [rmL, rmA]; omega)) (by first | omega | decide | (simp only [rmL, rmA]; omega)) ?_
        exact ⟨by simp [hHome, hx, h21] <;> rfl, rfl⟩
theorem ho_t {α : Type} {o : Option α} {i : α} (hx : o = some i) (h : bI o.isSome = 0) : False := by
  rw [hx] at h
  exact absurd h (show ¬ (1 : Int32) = 0 by decide)
theorem ho_f {α : Type} {o : Option α} (hx : o = none) (h : ¬ bI o.isSome = 0) : False := by
  rw [hx] at h
  exact h rfl
def hResult (I : Mem) (h c n k : Nat) (x : Int32) : Int32 := match hHome I h c x with
  | none => -1
  | some i => lRes I (h + 4) (tm h i) n k
set_option maxHeartbeats 2000000 in
set_option maxRecDepth 20000 in
/-- SledHouse.result -/
theorem c_hResult {E : Ev} (GE : Glob E) (S : Nat → Option (Nat × Nat)) (I : Nat → Nat → Int32) (V : Nat → Nat → Option Nat) (J : Nat → Nat → Int64) (N : Nat) (h c n k : Nat) (x : Int32) (hH : HouseSh S V h) (hc : I (h + 9) 2 = nI c) (hc6 : c ≤ 6) (hn : I (h + 9 + 1) 4 = nI n) (hn12 : n ≤ 12) (hO : LawOK I (h + 4) k) : Ct E yX10_result cX10_result 2 (some .int) (rmL 4) [.ref h, .int x] (S, I, V, J, N) (fun v w' => v = some (.int (hResult I h c n k x)) ∧ w' = (S, I, V, J, N)) := by
  refine Ct.start GE (by decide) rfl (Nat.le_of_ble_eq_true rfl) (fun M X => ?_)
  have X : Cx E M RX10 cX10_result 2 (rmL 4) (some .int) "result" := X
  refine r_loc (L' := [some (.ref h), some (.int x)]) rfl ?_
  obtain ⟨hs0, hv0, hv1, hv2, hv3, hv4, hv5, hTp, hs3, hPl, hLw, hRc, hs76, hGh, hRow⟩ := id hH
  obtain ⟨rs0, rv0, rv1, rTr, rs6, rTe⟩ := id hRc
  have qs0 := rTr.1
  have ts0 := hTp.1
  have ls0 := hLw.1
  rcases hx : hHome I h c x with _ | i
  · skip
    refine r_aload_n X dX10_result_0 rfl rfl ?_
    refine r_iload_n X dX10_result_1 rfl rfl ?_
    refine q_callV X dX10_result_2 mX10_242 cwX10_isHome (c_hIsHome GE S I V J N h c x hH hc hc6) rfl (by assumption) rfl rfl rfl (Nat.le_of_ble_eq_true rfl) ⟨Nat.le_of_ble_eq_true rfl, Nat.le_of_ble_eq_true rfl⟩ ⟨(by first | omega | decide | (simp only [rmL, rmA]; omega)), (by first | omega | decide | (simp only [rmL, rmA]; omega))⟩ ?_
    rintro _ _ ⟨rfl, rfl⟩
    refine r_if_eq (tgt := 37) X dX10_result_5 (by decide) (fun h5 => ?_) (fun h5 => ?_)
    · skip
      refine r_iconst (v := -1) X dX10_result_37 (by decide) ?_
      refine r_ireturn X dX10_result_38 rfl (by first | omega | decide | (simp only [rmL, rmA]; omega)) (by first | omega | decide | (simp only [rmL, rmA]; omega)) ?_
      exact ⟨by simp [hResult, hx], rfl⟩
    · skip
      exact (ho_f hx h5).elim
  · obtain ⟨hi, rfl, hst⟩ := hHome_lt (by omega) hx
    have te1 := (rTe i (by omega)).1
    have te2 := (rTe i (by omega)).2
    refine r_aload_n X dX10_result_0 rfl rfl ?_
    refine r_iload_n X dX10_result_1 rfl rfl ?_
    refine q_callV X dX10_result_2 mX10_242 cwX10_isHome (c_hIsHome GE S I V J N h c _ hH hc hc6) rfl (by assumption) rfl rfl rfl (Nat.le_of_ble_eq_true rfl) ⟨Nat.le_of_ble_eq_true rfl, Nat.le_of_ble_eq_true rfl⟩ ⟨(by first | omega | decide | (simp only [rmL, rmA]; omega)), (by first | omega | decide | (simp only [rmL, rmA]; omega))⟩ ?_
    rintro _ _ ⟨rfl, rfl⟩
    refine r_if_eq (tgt := 37) X dX10_result_5 (by decide) (fun h5 => ?_) (fun h5 => ?_)
    · skip
      exact (ho_t hx h5).elim
    · skip
      refine r_aload_n X dX10_result_8 rfl rfl ?_
      refine r_getR X dX10_result_9 fX10_25 (by assumption) (by assumption) ?_
      refine r_aload_n X dX10_result_12 rfl rfl ?_
      refine r_getR X dX10_result_13 fX10_32 (by assumption) (by assumption) ?_
      refine r_getR X dX10_result_16 fX10_145 (by assumption) (by assumption) ?_
      refine r_iload_n X dX10_result_19 rfl rfl ?_
      refine r_aaldN X dX10_result_20 (by assumption) (by decide) rfl (by omega) (by omega) (by assumption) ?_
      refine r_aload_n X dX10_result_21 rfl rfl ?_
      refine r_getR X dX10_result_22 fX10_32 (by assumption) (by assumption) ?_
      refine r_getR X dX10_result_25 fX10_81 (by assumption) (by assumption) ?_
      refine r_getI X dX10_result_28 fX10_85 (by assumption) (by first | assumption | rfl) ?_
      refine q_callV X dX10_result_31 mX10_245 cwX2_resultOf (c_lRes GE S I V J N (h + 4) _ n k hLw te2 hO hn12) rfl (by assumption) rfl rfl rfl (Nat.le_of_ble_eq_true rfl) ⟨Nat.le_of_ble_eq_true rfl, Nat.le_of_ble_eq_true rfl⟩ ⟨(by first | omega | decide | (simp only [rmL, rmA]; omega)), (by first | omega | decide | (simp only [rmL, rmA]; omega))⟩ ?_
      rintro _ _ ⟨rfl, rfl⟩
      refine r_goto (tgt := 38) X dX10_result_34 (by decide) ?_
      refine r_ireturn X dX10_result_38 rfl (by first | omega | decide | (simp only [rmL, rmA]; omega)) (by first | omega | decide | (simp only [rmL, rmA]; omega)) ?_
      exact ⟨by simp [hResult, hx], rfl⟩
def hLacks (I : Mem) (h c n k : Nat) (x y : Int32) : Int32 := match hHome I h c x with
  | none => -1
  | some i => match ixI y k with
    | none => -1
    | some j => lLack I (h + 4) (tm h i) n j
set_option maxHeartbeats 2000000 in
set_option maxRecDepth 20000 in
/-- SledHouse.lacks -/
theorem c_hLacks {E : Ev} (GE : Glob E) (S : Nat → Option (Nat × Nat)) (I : Nat → Nat → Int32) (V : Nat → Nat → Option Nat) (J : Nat → Nat → Int64) (N : Nat) (h c n k : Nat) (x y : Int32) (hH : HouseSh S V h) (hc : I (h + 9) 2 = nI c) (hc6 : c ≤ 6) (hn : I (h + 9 + 1) 4 = nI n) (hn12 : n ≤ 12) (hO : LawOK I (h + 4) k) : Ct E yX10_lacks cX10_lacks 3 (some .int) (rmL 3) [.ref h, .int x, .int y] (S, I, V, J, N) (fun v w' => v = some (.int (hLacks I h c n k x y)) ∧ w' = (S, I, V, J, N)) := by
  refine Ct.start GE (by decide) rfl (Nat.le_of_ble_eq_true rfl) (fun M X => ?_)
  have X : Cx E M RX10 cX10_lacks 3 (rmL 3) (some .int) "lacks" := X
  refine r_loc (L' := [some (.ref h), some (.int x), some (.int y)]) rfl ?_
  obtain ⟨hs0, hv0, hv1, hv2, hv3, hv4, hv5, hTp, hs3, hPl, hLw, hRc, hs76, hGh, hRow⟩ := id hH
  obtain ⟨rs0, rv0, rv1, rTr, rs6, rTe⟩ := id hRc
  have qs0 := rTr.1
  have ts0 := hTp.1
  have ls0 := hLw.1
  have hk10 := hO.2.1
  rcases hx : hHome I h c x with _ | i
  · skip
    refine r_aload_n X dX10_lacks_0 rfl rfl ?_
    refine r_iload_n X dX10_lacks_1 rfl rfl ?_
    refine q_callV X dX10_lacks_2 mX10_242 cwX10_isHome (c_hIsHome GE S I V J N h c x hH hc hc6) rfl (by assumption) rfl rfl rfl (Nat.le_of_ble_eq_true rfl) ⟨Nat.le_of_ble_eq_true rfl, Nat.le_of_ble_eq_true rfl⟩ ⟨(by first | omega | decide | (simp only [rmL, rmA]; omega)), (by first | omega | decide | (simp only [rmL, rmA]; omega))⟩ ?_
    rintro _ _ ⟨rfl, rfl⟩
    refine r_if_eq (tgt := 16) X dX10_lacks_5 (by decide) (fun h5 => ?_) (fun h5 => ?_)
    · skip
      refine r_iconst (v := -1) X dX10_lacks_16 (by decide) ?_
      refine r_ireturn X dX10_lacks_17 rfl (by first | omega | decide | (simp only [rmL, rmA]; omega)) (by first | omega | decide | (simp only [rmL, rmA]; omega)) ?_
      exact ⟨by simp [hLacks, hx], rfl⟩
    · skip
      exact (ho_f hx h5).elim
  · obtain ⟨hi, rfl, hst⟩ := hHome_lt (by omega) hx
    have te1 := (rTe i (by omega)).1
    have te2 := (rTe i (by omega)).2
    rcases hd : ixI y k with _ | j
    · skip
      refine r_aload_n X dX10_lacks_0 rfl rfl ?_
      refine r_iload_n X dX10_lacks_1 rfl rfl ?_
      refine q_callV X dX10_lacks_2 mX10_242 cwX10_isHome (c_hIsHome GE S I V J N h c _ hH hc hc6) rfl (by assumption) rfl rfl rfl (Nat.le_of_ble_eq_true rfl) ⟨Nat.le_of_ble_eq_true rfl, Nat.le_of_ble_eq_true rfl⟩ ⟨(by first | omega | decide | (simp only [rmL, rmA]; omega)), (by first | omega | decide | (simp only [rmL, rmA]; omega))⟩ ?_
      rintro _ _ ⟨rfl, rfl⟩
      refine r_if_eq (tgt := 16) X dX10_lacks_5 (by decide) (fun h5 => ?_) (fun h5 => ?_)
      · skip
        exact (ho_t hx h5).elim
      · skip
        refine r_aload_n X dX10_lacks_8 rfl rfl ?_
        refine r_iload_n X dX10_lacks_9 rfl rfl ?_
        refine q_callV X dX10_lacks_10 mX10_249 cwX10_isLaw (c_hIsLaw GE S I V J N h k y hH hO.1) rfl (by assumption) rfl rfl rfl (Nat.le_of_ble_eq_true rfl) ⟨Nat.le_of_ble_eq_true rfl, Nat.le_of_ble_eq_true rfl⟩ ⟨(by first | omega | decide | (simp only [rmL, rmA]; omega)), (by first | omega | decide | (simp only [rmL, rmA]; omega))⟩ ?_
        rintro _ _ ⟨rfl, rfl⟩
        refine r_if_ne (tgt := 18) X dX10_lacks_13 (by decide) (fun h13 => ?_) (fun h13 => ?_)
        · skip
          exact (ix_f hd h13).elim
        · skip
          refine r_iconst (v := -1) X dX10_lacks_16 (by decide) ?_
          refine r_ireturn X dX10_lacks_17 rfl (by first | omega | decide | (simp only [rmL, rmA]; omega)) (by first | omega | decide | (simp only [rmL, rmA]; omega)) ?_
          exact ⟨by simp [hLacks, hx, hd], rfl⟩
    · obtain ⟨hj, rfl⟩ := ixI_some (by omega) hd
      refine r_aload_n X dX10_lacks_0 rfl rfl ?_
      refine r_iload_n X dX10_lacks_1 rfl rfl ?_
      refine q_callV X dX10_lacks_2 mX10_242 cwX10_isHome (c_hIsHome GE S I V J N h c _ hH hc hc6) rfl (by assumption) rfl rfl rfl (Nat.le_of_ble_eq_true rfl) ⟨Nat.le_of_ble_eq_true rfl, Nat.le_of_ble_eq_true rfl⟩ ⟨(by first | omega | decide | (simp only [rmL, rmA]; omega)), (by first | omega | decide | (simp only [rmL, rmA]; omega))⟩ ?_
      rintro _ _ ⟨rfl, rfl⟩
      refine r_if_eq (tgt := 16) X dX10_lacks_5 (by decide) (fun h5 => ?_) (fun h5 => ?_)
      · skip
        exact (ho_t hx h5).elim
      · skip
        refine r_aload_n X dX10_lacks_8 rfl rfl ?_
        refine r_iload_n X dX10_lacks_9 rfl rfl ?_
        refine q_callV X dX10_lacks_10 mX10_249 cwX10_isLaw (c_hIsLaw GE S I V J N h k _ hH hO.1) rfl (by assumption) rfl rfl rfl (Nat.le_of_ble_eq_true rfl) ⟨Nat.le_of_ble_eq_true rfl, Nat.le_of_ble_eq_true rfl⟩ ⟨(by first | omega | decide | (simp only [rmL, rmA]; omega)), (by first | omega | decide | (simp only [rmL, rmA]; omega))⟩ ?_
        rintro _ _ ⟨rfl, rfl⟩
        refine r_if_ne (tgt := 18) X dX10_lacks_13 (by decide) (fun h13 => ?_) (fun h13 => ?_)
        · skip
          refine r_aload_n X dX10_lacks_18 rfl rfl ?_
          refine r_getR X dX10_lacks_19 fX10_25 (by assumption) (by assumption) ?_
          refine r_iload_n X dX10_lacks_22 rfl rfl ?_
          refine r_aload_n X dX10_lacks_23 rfl rfl ?_
          refine r_getR X dX10_lacks_24 fX10_32 (by assumption) (by assumption) ?_
          refine r_getR X dX10_lacks_27 fX10_145 (by assumption) (by assumption) ?_
          refine r_iload_n X dX10_lacks_30 rfl rfl ?_
          refine r_aaldN X dX10_lacks_31 (by assumption) (by decide) rfl (by omega) (by omega) (by assumption) ?_
          refine r_aload_n X dX10_lacks_32 rfl rfl ?_
          refine r_getR X dX10_lacks_33 fX10_32 (by assumption) (by assumption) ?_
          refine r_getR X dX10_lacks_36 fX10_81 (by assumption) (by assumption) ?_
          refine r_getI X dX10_lacks_39 fX10_85 (by assumption) (by first | assumption | rfl) ?_
          refine q_callV X dX10_lacks_42 mX10_252 cwX2_lackOf (c_lLack GE S I V J N (h + 4) _ n j k hLw te2 hO hj hn12) rfl (by assumption) rfl rfl rfl (Nat.le_of_ble_eq_true rfl) ⟨Nat.le_of_ble_eq_true rfl, Nat.le_of_ble_eq_true rfl⟩ ⟨(by first | omega | decide | (simp only [rmL, rmA]; omega)), (by first | omega | decide | (simp only [rmL, rmA]; omega))⟩ ?_
          rintro _ _ ⟨rfl, rfl⟩
          refine r_ireturn X dX10_lacks_45 rfl (by first | omega | decide | (simp only [rmL, rmA]; omega)) (by first | omega | decide | (simp only [rmL, rmA]; omega)) ?_
          exact ⟨by simp [hLacks, hx, hd], rfl⟩
        · skip
          exact (ix_t hd h13).elim
def hCameN (I : Mem) (h k : Nat) (s : Int32) : Nat → Nat
  | 0 => 0
  | j + 1 => if I (tm h j + 8) k = -1 then hCameN I h k s j else if s < I (tm h j + 8) k then hCameN I h k s j else hCameN I h k s j + 1
def hCame (I : Mem) (h c n : Nat) (p s : Int32) : Int32 := match ixI p (n + 1) with
  | none => -1
  | some k => nI (hCameN I h k s c)
set_option maxHeartbeats 2000000 in
set_option maxRecDepth 20000 in
/-- SledHouse.came -/
theorem c_hCame {E : Ev} (GE : Glob E) (S : Nat → Option (Nat × Nat)) (I : Nat → Nat → Int32) (V : Nat → Nat → Option Nat) (J : Nat → Nat → Int64) (N : Nat) (h c n : Nat) (p s : Int32) (hH : HouseSh S V h) (hc : I (h + 9) 2 = nI c) (hc6 : c ≤ 6) (hn : I (h + 9 + 1) 4 = nI n) (hn12 : n ≤ 12) : Ct E yX10_came cX10_came 6 (some .int) (rmL 1) [.ref h, .int p, .int s] (S, I, V, J, N) (fun v w' => v = some (.int (hCame I h c n p s)) ∧ w' = (S, I, V, J, N)) := by
  refine Ct.start GE (by decide) rfl (Nat.le_of_ble_eq_true rfl) (fun M X => ?_)
  have X : Cx E M RX10 cX10_came 6 (rmL 1) (some .int) "came" := X
  refine r_loc (L' := [some (.ref h), some (.int p), some (.int s), none, none, none]) rfl ?_
  obtain ⟨hs0, hv0, hv1, hv2, hv3, hv4, hv5, hTp, hs3, hPl, hLw, hRc, hs76, hGh, hRow⟩ := id hH
  obtain ⟨rs0, rv0, rv1, rTr, rs6, rTe⟩ := id hRc
  have qs0 := rTr.1
  have ts0 := hTp.1
  have ls0 := hLw.1
  rcases hd : ixI p (n + 1) with _ | k
  · skip
    refine r_aload_n X dX10_came_0 rfl rfl ?_
    refine r_iload_n X dX10_came_1 rfl rfl ?_
    refine q_callV X dX10_came_2 mX10_230 cwX10_isPost (c_hIsPost GE S I V J N h n p hH hn hn12) rfl (by assumption) rfl rfl rfl (Nat.le_of_ble_eq_true rfl) ⟨Nat.le_of_ble_eq_true rfl, Nat.le_of_ble_eq_true rfl⟩ ⟨(by first | omega | decide | (simp only [rmL, rmA]; omega)), (by first | omega | decide | (simp only [rmL, rmA]; omega))⟩ ?_
    rintro _ _ ⟨rfl, rfl⟩
    refine r_if_ne (tgt := 10) X dX10_came_5 (by decide) (fun h5 => ?_) (fun h5 => ?_)
    · skip
      exact (ix_f hd h5).elim
    · skip
      refine r_iconst (v := -1) X dX10_came_8 (by decide) ?_
      refine r_ireturn X dX10_came_9 rfl (by first | omega | decide | (simp only [rmL, rmA]; omega)) (by first | omega | decide | (simp only [rmL, rmA]; omega)) ?_
      exact ⟨by simp [hCame, hd], rfl⟩
  · obtain ⟨hk, rfl⟩ := ixI_some (by omega) hd
    refine r_aload_n X dX10_came_0 rfl rfl ?_
    refine r_iload_n X dX10_came_1 rfl rfl ?_
    refine q_callV X dX10_came_2 mX10_230 cwX10_isPost (c_hIsPost GE S I V J N h n _ hH hn hn12) rfl (by assumption) rfl rfl rfl (Nat.le_of_ble_eq_true rfl) ⟨Nat.le_of_ble_eq_true rfl, Nat.le_of_ble_eq_true rfl⟩ ⟨(by first | omega | decide | (simp only [rmL, rmA]; omega)), (by first | omega | decide | (simp only [rmL, rmA]; omega))⟩ ?_
    rintro _ _ ⟨rfl, rfl⟩
    refine r_if_ne (tgt := 10) X dX10_came_5 (by decide) (fun h5 => ?_) (fun h5 => ?_)
    · skip
      refine r_iconst (v := nI 0) X dX10_came_10 (by decide) ?_
      refine r_istore_n X dX10_came_11 rfl (by decide) rfl ?_
      refine r_iconst (v := nI 0) X dX10_came_12 (by decide) ?_
      refine r_istore X dX10_came_13 (by decide) rfl ?_
      have H : ∀ j, j ≤ c → ∀ x5, G E M 0 0 (qQ E M (rmL 1) (fun v w' => v = some (.int (hCame I h c n (nI k) s)) ∧ w' = (S, I, V, J, N))) 15 [some (.ref h), some (.int (nI k)), some (.int s), some (.int (nI (hCameN I h k s j))), some (.int (nI j)), x5] [] (S, I, V, J, N) := by
        refine loopN c (fun j hj ih => ?_)
        intro x5
        refine r_iload X dX10_came_15 rfl ?_
        refine r_aload_n X dX10_came_17 rfl rfl ?_
        refine r_getR X dX10_came_18 fX10_32 (by assumption) (by assumption) ?_
        refine r_getI X dX10_came_21 fX10_142 (by assumption) (by first | assumption | rfl) ?_
        refine r_icmpN_ge (tgt := 65) X dX10_came_24 (by decide) (by omega) (by omega) (fun h24 => ?_) (fun h24 => ?_)
        · skip
          refine r_iload_n X dX10_came_65 rfl rfl ?_
          refine r_ireturn X dX10_came_66 rfl (by first | omega | decide | (simp only [rmL, rmA]; omega)) (by first | omega | decide | (simp only [rmL, rmA]; omega)) ?_
          obtain rfl : j = c := by omega
          exact ⟨by simp [hCame, hd], rfl⟩
        · skip
          have te1 := (rTe j (by omega)).1
          have te2 := (rTe j (by omega)).2
          obtain ⟨as0, av0, av1, av2, av3, aD, aG, as8, as9⟩ := id te2
          refine r_aload_n X dX10_came_27 rfl rfl ?_
          refine r_getR X dX10_came_28 fX10_32 (by assumption) (by assumption) ?_
          refine r_getR X dX10_came_31 fX10_145 (by assumption) (by assumption) ?_
          refine r_iload X dX10_came_34 rfl ?_
          refine r_aaldN X dX10_came_36 (by assumption) (by decide) rfl (by omega) (by omega) (by assumption) ?_
          refine r_getR X dX10_came_37 fX10_236 (by assumption) (by assumption) ?_
          refine r_iload_n X dX10_came_40 rfl rfl ?_
          refine r_ialdN X dX10_came_41 (by assumption) (by omega) (by omega) (by first | assumption | rfl) ?_
          refine r_istore X dX10_came_42 (by decide) rfl ?_
          refine r_iload X dX10_came_44 rfl ?_
          refine r_iconst (v := -1) X dX10_came_46 (by decide) ?_
          refine r_icmp_eq (tgt := 59) X dX10_came_47 (by decide) (fun h47 => ?_) (fun h47 => ?_)
          · skip
            first | refine r_iincN X dX10_came_59 rfl (by decide) rfl ?_ | refine r_iinc X dX10_came_59 rfl rfl (by decide) rfl ?_
            refine r_goto (tgt := 15) X dX10_came_62 (by decide) ?_
            exact r_loc (by simp [hCameN, *] <;> rfl) (ih (by omega) _)
          · skip
            refine r_iload X dX10_came_50 rfl ?_
            refine r_iload_n X dX10_came_52 rfl rfl ?_
            refine r_icmp_gt (tgt := 59) X dX10_came_53 (by decide) (fun h53 => ?_) (fun h53 => ?_)
            · skip
              first | refine r_iincN X dX10_came_59 rfl (by decide) rfl ?_ | refine r_iinc X dX10_came_59 rfl rfl (by decide) rfl ?_
              refine r_goto (tgt := 15) X dX10_came_62 (by decide) ?_
              exact r_loc (by simp [hCameN, *] <;> rfl) (ih (by omega) _)
            · skip
              first | refine r_iincN X dX10_came_56 rfl (by decide) rfl ?_ | refine r_iinc X dX10_came_56 rfl rfl (by decide) rfl ?_
              first | refine r_iincN X dX10_came_59 rfl (by decide) rfl ?_ | refine r_iinc X dX10_came_59 rfl rfl (by decide) rfl ?_
              refine r_goto (tgt := 15) X dX10_came_62 (by decide) ?_
              exact r_loc (by simp [hCameN, *] <;> rfl) (ih (by omega) _)
      exact H 0 (by omega) _
    · skip
      exact (ix_t hd h5).elim
