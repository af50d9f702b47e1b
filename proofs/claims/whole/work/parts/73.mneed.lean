/-! ===== the reference: nameHere, needWord, needNumber, start ===== -/
set_option maxHeartbeats 2000000 in
set_option maxRecDepth 20000 in
/-- SledHouseModel.nameHere -/
theorem c_mNmH {E : Ev} (GE : Glob E) (S : Nat → Option (Nat × Nat)) (I : Nat → Nat → Int32) (V : Nat → Nat → Option Nat) (J : Nat → Nat → Int64) (N : Nat) (g : Nat) (hZ : Strs E) (hs0 : S g = some (12, 0)) : Ct E yX13_nameHere cX13_nameHere 2 (some .int) (rmL 6) [.ref g] (S, I, V, J, N) (fun v w' => v = some (.int (wName (mIsW I J g))) ∧ w' = (S, I, V, J, N)) := by
  refine Ct.start GE (by decide) rfl (Nat.le_of_ble_eq_true rfl) (fun M X => ?_)
  have X : Cx E M RX13 cX13_nameHere 2 (rmL 6) (some .int) "nameHere" := X
  refine r_loc (L' := [some (.ref g), none]) rfl ?_
  refine r_aload_n X dX13_nameHere_0 rfl rfl ?_
  refine r_ldcS X dX13_nameHere_1 (sX13_200 hZ) (fun u1 hu1 => ?_)
  refine q_callV X dX13_nameHere_3 mX13_182 cwX13_isWord (c_mIsW GE S I V J N g _ kw_run hZ hs0 (by assumption)) rfl (by assumption) rfl rfl rfl (Nat.le_of_ble_eq_true rfl) ⟨Nat.le_of_ble_eq_true rfl, Nat.le_of_ble_eq_true rfl⟩ ⟨(by first | omega | decide | (simp only [rmL, rmA]; omega)), (by first | omega | decide | (simp only [rmL, rmA]; omega))⟩ ?_
  rintro _ _ ⟨rfl, rfl⟩
  refine r_if_eq (tgt := 13) X dX13_nameHere_6 (by decide) (fun h6 => ?_) (fun h6 => ?_)
  · skip
    refine r_aload_n X dX13_nameHere_13 rfl rfl ?_
    refine r_ldcS X dX13_nameHere_14 (sX13_202 hZ) (fun u14 hu14 => ?_)
    refine q_callV X dX13_nameHere_16 mX13_182 cwX13_isWord (c_mIsW GE S I V J N g _ kw_rest hZ hs0 (by assumption)) rfl (by assumption) rfl rfl rfl (Nat.le_of_ble_eq_true rfl) ⟨Nat.le_of_ble_eq_true rfl, Nat.le_of_ble_eq_true rfl⟩ ⟨(by first | omega | decide | (simp only [rmL, rmA]; omega)), (by first | omega | decide | (simp only [rmL, rmA]; omega))⟩ ?_
    rintro _ _ ⟨rfl, rfl⟩
    refine r_if_eq (tgt := 26) X dX13_nameHere_19 (by decide) (fun h19 => ?_) (fun h19 => ?_)
    · skip
      refine r_aload_n X dX13_nameHere_26 rfl rfl ?_
      refine r_ldcS X dX13_nameHere_27 (sX13_204 hZ) (fun u27 hu27 => ?_)
      refine q_callV X dX13_nameHere_29 mX13_182 cwX13_isWord (c_mIsW GE S I V J N g _ kw_weak hZ hs0 (by assumption)) rfl (by assumption) rfl rfl rfl (Nat.le_of_ble_eq_true rfl) ⟨Nat.le_of_ble_eq_true rfl, Nat.le_of_ble_eq_true rfl⟩ ⟨(by first | omega | decide | (simp only [rmL, rmA]; omega)), (by first | omega | decide | (simp only [rmL, rmA]; omega))⟩ ?_
      rintro _ _ ⟨rfl, rfl⟩
      refine r_if_eq (tgt := 39) X dX13_nameHere_32 (by decide) (fun h32 => ?_) (fun h32 => ?_)
      · skip
        refine r_aload_n X dX13_nameHere_39 rfl rfl ?_
        refine r_ldcS X dX13_nameHere_40 (sX13_206 hZ) (fun u40 hu40 => ?_)
        refine q_callV X dX13_nameHere_42 mX13_182 cwX13_isWord (c_mIsW GE S I V J N g _ kw_mean hZ hs0 (by assumption)) rfl (by assumption) rfl rfl rfl (Nat.le_of_ble_eq_true rfl) ⟨Nat.le_of_ble_eq_true rfl, Nat.le_of_ble_eq_true rfl⟩ ⟨(by first | omega | decide | (simp only [rmL, rmA]; omega)), (by first | omega | decide | (simp only [rmL, rmA]; omega))⟩ ?_
        rintro _ _ ⟨rfl, rfl⟩
        refine r_if_eq (tgt := 52) X dX13_nameHere_45 (by decide) (fun h45 => ?_) (fun h45 => ?_)
        · skip
          refine r_aload_n X dX13_nameHere_52 rfl rfl ?_
          refine r_ldcS X dX13_nameHere_53 (sX13_208 hZ) (fun u53 hu53 => ?_)
          refine q_callV X dX13_nameHere_55 mX13_182 cwX13_isWord (c_mIsW GE S I V J N g _ kw_cold hZ hs0 (by assumption)) rfl (by assumption) rfl rfl rfl (Nat.le_of_ble_eq_true rfl) ⟨Nat.le_of_ble_eq_true rfl, Nat.le_of_ble_eq_true rfl⟩ ⟨(by first | omega | decide | (simp only [rmL, rmA]; omega)), (by first | omega | decide | (simp only [rmL, rmA]; omega))⟩ ?_
          rintro _ _ ⟨rfl, rfl⟩
          refine r_if_eq (tgt := 65) X dX13_nameHere_58 (by decide) (fun h58 => ?_) (fun h58 => ?_)
          · skip
            refine r_iconst (v := -1) X dX13_nameHere_65 (by decide) ?_
            refine r_istore_n X dX13_nameHere_66 rfl (by decide) rfl ?_
            refine r_iload_n X dX13_nameHere_67 rfl rfl ?_
            refine r_iconst (v := -1) X dX13_nameHere_68 (by decide) ?_
            refine r_icmp_eq (tgt := 74) X dX13_nameHere_69 (by decide) (fun h69 => ?_) (fun h69 => ?_)
            rotate_left
            · exact absurd h69 (by decide)
            refine r_aload_n X dX13_nameHere_74 rfl rfl ?_
            refine r_ldcS X dX13_nameHere_75 (sX13_209 hZ) (fun u75 hu75 => ?_)
            refine q_callV X dX13_nameHere_77 mX13_182 cwX13_isWord (c_mIsW GE S I V J N g _ kw_meals hZ hs0 (by assumption)) rfl (by assumption) rfl rfl rfl (Nat.le_of_ble_eq_true rfl) ⟨Nat.le_of_ble_eq_true rfl, Nat.le_of_ble_eq_true rfl⟩ ⟨(by first | omega | decide | (simp only [rmL, rmA]; omega)), (by first | omega | decide | (simp only [rmL, rmA]; omega))⟩ ?_
            rintro _ _ ⟨rfl, rfl⟩
            refine r_if_eq (tgt := 87) X dX13_nameHere_80 (by decide) (fun h80 => ?_) (fun h80 => ?_)
            · skip
              refine r_aload_n X dX13_nameHere_87 rfl rfl ?_
              refine r_ldcS X dX13_nameHere_88 (sX13_211 hZ) (fun u88 hu88 => ?_)
              refine q_callV X dX13_nameHere_90 mX13_182 cwX13_isWord (c_mIsW GE S I V J N g _ kw_dogs hZ hs0 (by assumption)) rfl (by assumption) rfl rfl rfl (Nat.le_of_ble_eq_true rfl) ⟨Nat.le_of_ble_eq_true rfl, Nat.le_of_ble_eq_true rfl⟩ ⟨(by first | omega | decide | (simp only [rmL, rmA]; omega)), (by first | omega | decide | (simp only [rmL, rmA]; omega))⟩ ?_
              rintro _ _ ⟨rfl, rfl⟩
              refine r_if_eq (tgt := 101) X dX13_nameHere_93 (by decide) (fun h93 => ?_) (fun h93 => ?_)
              · skip
                refine r_aload_n X dX13_nameHere_101 rfl rfl ?_
                refine r_ldcS X dX13_nameHere_102 (sX13_213 hZ) (fun u102 hu102 => ?_)
                refine q_callV X dX13_nameHere_104 mX13_182 cwX13_isWord (c_mIsW GE S I V J N g _ kw_left hZ hs0 (by assumption)) rfl (by assumption) rfl rfl rfl (Nat.le_of_ble_eq_true rfl) ⟨Nat.le_of_ble_eq_true rfl, Nat.le_of_ble_eq_true rfl⟩ ⟨(by first | omega | decide | (simp only [rmL, rmA]; omega)), (by first | omega | decide | (simp only [rmL, rmA]; omega))⟩ ?_
                rintro _ _ ⟨rfl, rfl⟩
                refine r_if_eq (tgt := 115) X dX13_nameHere_107 (by decide) (fun h107 => ?_) (fun h107 => ?_)
                · skip
                  refine r_aload_n X dX13_nameHere_115 rfl rfl ?_
                  refine r_ldcS X dX13_nameHere_116 (sX13_215 hZ) (fun u116 hu116 => ?_)
                  refine q_callV X dX13_nameHere_118 mX13_182 cwX13_isWord (c_mIsW GE S I V J N g _ kw_hour hZ hs0 (by assumption)) rfl (by assumption) rfl rfl rfl (Nat.le_of_ble_eq_true rfl) ⟨Nat.le_of_ble_eq_true rfl, Nat.le_of_ble_eq_true rfl⟩ ⟨(by first | omega | decide | (simp only [rmL, rmA]; omega)), (by first | omega | decide | (simp only [rmL, rmA]; omega))⟩ ?_
                  rintro _ _ ⟨rfl, rfl⟩
                  refine r_if_eq (tgt := 129) X dX13_nameHere_121 (by decide) (fun h121 => ?_) (fun h121 => ?_)
                  · skip
                    refine r_aload_n X dX13_nameHere_129 rfl rfl ?_
                    refine r_ldcS X dX13_nameHere_130 (sX13_217 hZ) (fun u130 hu130 => ?_)
                    refine q_callV X dX13_nameHere_132 mX13_182 cwX13_isWord (c_mIsW GE S I V J N g _ kw_post hZ hs0 (by assumption)) rfl (by assumption) rfl rfl rfl (Nat.le_of_ble_eq_true rfl) ⟨Nat.le_of_ble_eq_true rfl, Nat.le_of_ble_eq_true rfl⟩ ⟨(by first | omega | decide | (simp only [rmL, rmA]; omega)), (by first | omega | decide | (simp only [rmL, rmA]; omega))⟩ ?_
                    rintro _ _ ⟨rfl, rfl⟩
                    refine r_if_eq (tgt := 143) X dX13_nameHere_135 (by decide) (fun h135 => ?_) (fun h135 => ?_)
                    · skip
                      refine r_aload_n X dX13_nameHere_143 rfl rfl ?_
                      refine r_ldcS X dX13_nameHere_144 (sX13_219 hZ) (fun u144 hu144 => ?_)
                      refine q_callV X dX13_nameHere_146 mX13_182 cwX13_isWord (c_mIsW GE S I V J N g _ kw_load hZ hs0 (by assumption)) rfl (by assumption) rfl rfl rfl (Nat.le_of_ble_eq_true rfl) ⟨Nat.le_of_ble_eq_true rfl, Nat.le_of_ble_eq_true rfl⟩ ⟨(by first | omega | decide | (simp only [rmL, rmA]; omega)), (by first | omega | decide | (simp only [rmL, rmA]; omega))⟩ ?_
                      rintro _ _ ⟨rfl, rfl⟩
                      refine r_if_eq (tgt := 157) X dX13_nameHere_149 (by decide) (fun h149 => ?_) (fun h149 => ?_)
                      · skip
                        refine r_iconst (v := -1) X dX13_nameHere_157 (by decide) ?_
                        refine r_ireturn X dX13_nameHere_158 rfl (by first | omega | decide | (simp only [rmL, rmA]; omega)) (by first | omega | decide | (simp only [rmL, rmA]; omega)) ?_
                        refine ⟨?_, rfl⟩
                        first
                          | (have z0 := bI_1 h6
                             rw [wName, if_pos z0]; done)
                          | (have z0 := bI_0 h6
                             have z1 := bI_1 h19
                             rw [wName, z0, if_neg (by decide), if_pos z1]; done)
                          | (have z0 := bI_0 h6
                             have z1 := bI_0 h19
                             have z2 := bI_1 h32
                             rw [wName, z0, if_neg (by decide), z1, if_neg (by decide), if_pos z2]; done)
                          | (have z0 := bI_0 h6
                             have z1 := bI_0 h19
                             have z2 := bI_0 h32
                             have z3 := bI_1 h45
                             rw [wName, z0, if_neg (by decide), z1, if_neg (by decide), z2, if_neg (by decide), if_pos z3]; done)
                          | (have z0 := bI_0 h6
                             have z1 := bI_0 h19
                             have z2 := bI_0 h32
                             have z3 := bI_0 h45
                             have z4 := bI_1 h58
                             rw [wName, z0, if_neg (by decide), z1, if_neg (by decide), z2, if_neg (by decide), z3, if_neg (by decide), if_pos z4]; done)
                          | (have z0 := bI_0 h6
                             have z1 := bI_0 h19
                             have z2 := bI_0 h32
                             have z3 := bI_0 h45
                             have z4 := bI_0 h58
                             have y0 := bI_1 h80
                             rw [wName, z0, if_neg (by decide), z1, if_neg (by decide), z2, if_neg (by decide), z3, if_neg (by decide), z4, if_neg (by decide), if_pos y0]; done)
                          | (have z0 := bI_0 h6
                             have z1 := bI_0 h19
                             have z2 := bI_0 h32
                             have z3 := bI_0 h45
                             have z4 := bI_0 h58
                             have y0 := bI_0 h80
                             have y1 := bI_1 h93
                             rw [wName, z0, if_neg (by decide), z1, if_neg (by decide), z2, if_neg (by decide), z3, if_neg (by decide), z4, if_neg (by decide), y0, if_neg (by decide), if_pos y1]; done)
                          | (have z0 := bI_0 h6
                             have z1 := bI_0 h19
                             have z2 := bI_0 h32
                             have z3 := bI_0 h45
                             have z4 := bI_0 h58
                             have y0 := bI_0 h80
                             have y1 := bI_0 h93
                             have y2 := bI_1 h107
                             rw [wName, z0, if_neg (by decide), z1, if_neg (by decide), z2, if_neg (by decide), z3, if_neg (by decide), z4, if_neg (by decide), y0, if_neg (by decide), y1, if_neg (by decide), if_pos y2]; done)
                          | (have z0 := bI_0 h6
                             have z1 := bI_0 h19
                             have z2 := bI_0 h32
                             have z3 := bI_0 h45
                             have z4 := bI_0 h58
                             have y0 := bI_0 h80
                             have y1 := bI_0 h93
                             have y2 := bI_0 h107
                             have y3 := bI_1 h121
                             rw [wName, z0, if_neg (by decide), z1, if_neg (by decide), z2, if_neg (by decide), z3, if_neg (by decide), z4, if_neg (by decide), y0, if_neg (by decide), y1, if_neg (by decide), y2, if_neg (by decide), if_pos y3]; done)
                          | (have z0 := bI_0 h6
                             have z1 := bI_0 h19
                             have z2 := bI_0 h32
                             have z3 := bI_0 h45
                             have z4 := bI_0 h58
                             have y0 := bI_0 h80
                             have y1 := bI_0 h93
                             have y2 := bI_0 h107
                             have y3 := bI_0 h121
                             have y4 := bI_1 h135
                             rw [wName, z0, if_neg (by decide), z1, if_neg (by decide), z2, if_neg (by decide), z3, if_neg (by decide), z4, if_neg (by decide), y0, if_neg (by decide), y1, if_neg (by decide), y2, if_neg (by decide), y3, if_neg (by decide), if_pos y4]; done)
                          | (have z0 := bI_0 h6
                             have z1 := bI_0 h19
                             have z2 := bI_0 h32
                             have z3 := bI_0 h45
                             have z4 := bI_0 h58
                             have y0 := bI_0 h80
                             have y1 := bI_0 h93
                             have y2 := bI_0 h107
                             have y3 := bI_0 h121
                             have y4 := bI_0 h135
                             have y5 := bI_1 h149
                             rw [wName, z0, if_neg (by decide), z1, if_neg (by decide), z2, if_neg (by decide), z3, if_neg (by decide), z4, if_neg (by decide), y0, if_neg (by decide), y1, if_neg (by decide), y2, if_neg (by decide), y3, if_neg (by decide), y4, if_neg (by decide), if_pos y5]; done)
                          | (have z0 := bI_0 h6
                             have z1 := bI_0 h19
                             have z2 := bI_0 h32
                             have z3 := bI_0 h45
                             have z4 := bI_0 h58
                             have y0 := bI_0 h80
                             have y1 := bI_0 h93
                             have y2 := bI_0 h107
                             have y3 := bI_0 h121
                             have y4 := bI_0 h135
                             have y5 := bI_0 h149
                             rw [wName, z0, if_neg (by decide), z1, if_neg (by decide), z2, if_neg (by decide), z3, if_neg (by decide), z4, if_neg (by decide), y0, if_neg (by decide), y1, if_neg (by decide), y2, if_neg (by decide), y3, if_neg (by decide), y4, if_neg (by decide), y5, if_neg (by decide)]; done)
                      · skip
                        refine r_bipush (v := 10) X dX13_nameHere_152 (by decide) ?_
                        refine r_goto (tgt := 158) X dX13_nameHere_154 (by decide) ?_
                        refine r_ireturn X dX13_nameHere_158 rfl (by first | omega | decide | (simp only [rmL, rmA]; omega)) (by first | omega | decide | (simp only [rmL, rmA]; omega)) ?_
                        refine ⟨?_, rfl⟩
                        first
                          | (have z0 := bI_1 h6
                             rw [wName, if_pos z0]; done)
                          | (have z0 := bI_0 h6
                             have z1 := bI_1 h19
                             rw [wName, z0, if_neg (by decide), if_pos z1]; done)
                          | (have z0 := bI_0 h6
                             have z1 := bI_0 h19
                             have z2 := bI_1 h32
                             rw [wName, z0, if_neg (by decide), z1, if_neg (by decide), if_pos z2]; done)
                          | (have z0 := bI_0 h6
                             have z1 := bI_0 h19
                             have z2 := bI_0 h32
                             have z3 := bI_1 h45
                             rw [wName, z0, if_neg (by decide), z1, if_neg (by decide), z2, if_neg (by decide), if_pos z3]; done)
                          | (have z0 := bI_0 h6
                             have z1 := bI_0 h19
                             have z2 := bI_0 h32
                             have z3 := bI_0 h45
                             have z4 := bI_1 h58
                             rw [wName, z0, if_neg (by decide), z1, if_neg (by decide), z2, if_neg (by decide), z3, if_neg (by decide), if_pos z4]; done)
                          | (have z0 := bI_0 h6
                             have z1 := bI_0 h19
                             have z2 := bI_0 h32
                             have z3 := bI_0 h45
                             have z4 := bI_0 h58
                             have y0 := bI_1 h80
                             rw [wName, z0, if_neg (by decide), z1, if_neg (by decide), z2, if_neg (by decide), z3, if_neg (by decide), z4, if_neg (by decide), if_pos y0]; done)
                          | (have z0 := bI_0 h6
                             have z1 := bI_0 h19
                             have z2 := bI_0 h32
                             have z3 := bI_0 h45
                             have z4 := bI_0 h58
                             have y0 := bI_0 h80
                             have y1 := bI_1 h93
                             rw [wName, z0, if_neg (by decide), z1, if_neg (by decide), z2, if_neg (by decide), z3, if_neg (by decide), z4, if_neg (by decide), y0, if_neg (by decide), if_pos y1]; done)
                          | (have z0 := bI_0 h6
                             have z1 := bI_0 h19
                             have z2 := bI_0 h32
                             have z3 := bI_0 h45
                             have z4 := bI_0 h58
                             have y0 := bI_0 h80
                             have y1 := bI_0 h93
                             have y2 := bI_1 h107
                             rw [wName, z0, if_neg (by decide), z1, if_neg (by decide), z2, if_neg (by decide), z3, if_neg (by decide), z4, if_neg (by decide), y0, if_neg (by decide), y1, if_neg (by decide), if_pos y2]; done)
                          | (have z0 := bI_0 h6
                             have z1 := bI_0 h19
                             have z2 := bI_0 h32
                             have z3 := bI_0 h45
                             have z4 := bI_0 h58
                             have y0 := bI_0 h80
                             have y1 := bI_0 h93
                             have y2 := bI_0 h107
                             have y3 := bI_1 h121
                             rw [wName, z0, if_neg (by decide), z1, if_neg (by decide), z2, if_neg (by decide), z3, if_neg (by decide), z4, if_neg (by decide), y0, if_neg (by decide), y1, if_neg (by decide), y2, if_neg (by decide), if_pos y3]; done)
                          | (have z0 := bI_0 h6
                             have z1 := bI_0 h19
                             have z2 := bI_0 h32
                             have z3 := bI_0 h45
                             have z4 := bI_0 h58
                             have y0 := bI_0 h80
                             have y1 := bI_0 h93
                             have y2 := bI_0 h107
                             have y3 := bI_0 h121
                             have y4 := bI_1 h135
                             rw [wName, z0, if_neg (by decide), z1, if_neg (by decide), z2, if_neg (by decide), z3, if_neg (by decide), z4, if_neg (by decide), y0, if_neg (by decide), y1, if_neg (by decide), y2, if_neg (by decide), y3, if_neg (by decide), if_pos y4]; done)
                          | (have z0 := bI_0 h6
                             have z1 := bI_0 h19
                             have z2 := bI_0 h32
                             have z3 := bI_0 h45
                             have z4 := bI_0 h58
                             have y0 := bI_0 h80
                             have y1 := bI_0 h93
                             have y2 := bI_0 h107
                             have y3 := bI_0 h121
                             have y4 := bI_0 h135
                             have y5 := bI_1 h149
                             rw [wName, z0, if_neg (by decide), z1, if_neg (by decide), z2, if_neg (by decide), z3, if_neg (by decide), z4, if_neg (by decide), y0, if_neg (by decide), y1, if_neg (by decide), y2, if_neg (by decide), y3, if_neg (by decide), y4, if_neg (by decide), if_pos y5]; done)
                          | (have z0 := bI_0 h6
                             have z1 := bI_0 h19
                             have z2 := bI_0 h32
                             have z3 := bI_0 h45
                             have z4 := bI_0 h58
                             have y0 := bI_0 h80
                             have y1 := bI_0 h93
                             have y2 := bI_0 h107
                             have y3 := bI_0 h121
                             have y4 := bI_0 h135
                             have y5 := bI_0 h149
                             rw [wName, z0, if_neg (by decide), z1, if_neg (by decide), z2, if_neg (by decide), z3, if_neg (by decide), z4, if_neg (by decide), y0, if_neg (by decide), y1, if_neg (by decide), y2, if_neg (by decide), y3, if_neg (by decide), y4, if_neg (by decide), y5, if_neg (by decide)]; done)
                    · skip
                      refine r_bipush (v := 9) X dX13_nameHere_138 (by decide) ?_
                      refine r_goto (tgt := 158) X dX13_nameHere_140 (by decide) ?_
                      refine r_ireturn X dX13_nameHere_158 rfl (by first | omega | decide | (simp only [rmL, rmA]; omega)) (by first | omega | decide | (simp only [rmL, rmA]; omega)) ?_
                      refine ⟨?_, rfl⟩
                      first
                        | (have z0 := bI_1 h6
                           rw [wName, if_pos z0]; done)
                        | (have z0 := bI_0 h6
                           have z1 := bI_1 h19
                           rw [wName, z0, if_neg (by decide), if_pos z1]; done)
                        | (have z0 := bI_0 h6
                           have z1 := bI_0 h19
                           have z2 := bI_1 h32
                           rw [wName, z0, if_neg (by decide), z1, if_neg (by decide), if_pos z2]; done)
                        | (have z0 := bI_0 h6
                           have z1 := bI_0 h19
                           have z2 := bI_0 h32
                           have z3 := bI_1 h45
                           rw [wName, z0, if_neg (by decide), z1, if_neg (by decide), z2, if_neg (by decide), if_pos z3]; done)
                        | (have z0 := bI_0 h6
                           have z1 := bI_0 h19
                           have z2 := bI_0 h32
                           have z3 := bI_0 h45
                           have z4 := bI_1 h58
                           rw [wName, z0, if_neg (by decide), z1, if_neg (by decide), z2, if_neg (by decide), z3, if_neg (by decide), if_pos z4]; done)
                        | (have z0 := bI_0 h6
                           have z1 := bI_0 h19
                           have z2 := bI_0 h32
                           have z3 := bI_0 h45
                           have z4 := bI_0 h58
                           have y0 := bI_1 h80
                           rw [wName, z0, if_neg (by decide), z1, if_neg (by decide), z2, if_neg (by decide), z3, if_neg (by decide), z4, if_neg (by decide), if_pos y0]; done)
                        | (have z0 := bI_0 h6
                           have z1 := bI_0 h19
                           have z2 := bI_0 h32
                           have z3 := bI_0 h45
                           have z4 := bI_0 h58
                           have y0 := bI_0 h80
                           have y1 := bI_1 h93
                           rw [wName, z0, if_neg (by decide), z1, if_neg (by decide), z2, if_neg (by decide), z3, if_neg (by decide), z4, if_neg (by decide), y0, if_neg (by decide), if_pos y1]; done)
                        | (have z0 := bI_0 h6
                           have z1 := bI_0 h19
                           have z2 := bI_0 h32
                           have z3 := bI_0 h45
                           have z4 := bI_0 h58
                           have y0 := bI_0 h80
                           have y1 := bI_0 h93
                           have y2 := bI_1 h107
                           rw [wName, z0, if_neg (by decide), z1, if_neg (by decide), z2, if_neg (by decide), z3, if_neg (by decide), z4, if_neg (by decide), y0, if_neg (by decide), y1, if_neg (by decide), if_pos y2]; done)
                        | (have z0 := bI_0 h6
                           have z1 := bI_0 h19
                           have z2 := bI_0 h32
                           have z3 := bI_0 h45
                           have z4 := bI_0 h58
                           have y0 := bI_0 h80
                           have y1 := bI_0 h93
                           have y2 := bI_0 h107
                           have y3 := bI_1 h121
                           rw [wName, z0, if_neg (by decide), z1, if_neg (by decide), z2, if_neg (by decide), z3, if_neg (by decide), z4, if_neg (by decide), y0, if_neg (by decide), y1, if_neg (by decide), y2, if_neg (by decide), if_pos y3]; done)
                        | (have z0 := bI_0 h6
                           have z1 := bI_0 h19
                           have z2 := bI_0 h32
                           have z3 := bI_0 h45
                           have z4 := bI_0 h58
                           have y0 := bI_0 h80
                           have y1 := bI_0 h93
                           have y2 := bI_0 h107
                           have y3 := bI_0 h121
                           have y4 := bI_1 h135
                           rw [wName, z0, if_neg (by decide), z1, if_neg (by decide), z2, if_neg (by decide), z3, if_neg (by decide), z4, if_neg (by decide), y0, if_neg (by decide), y1, if_neg (by decide), y2, if_neg (by decide), y3, if_neg (by decide), if_pos y4]; done)
                        | (have z0 := bI_0 h6
                           have z1 := bI_0 h19
                           have z2 := bI_0 h32
                           have z3 := bI_0 h45
                           have z4 := bI_0 h58
                           have y0 := bI_0 h80
                           have y1 := bI_0 h93
                           have y2 := bI_0 h107
                           have y3 := bI_0 h121
                           have y4 := bI_0 h135
                           have y5 := bI_1 h149
                           rw [wName, z0, if_neg (by decide), z1, if_neg (by decide), z2, if_neg (by decide), z3, if_neg (by decide), z4, if_neg (by decide), y0, if_neg (by decide), y1, if_neg (by decide), y2, if_neg (by decide), y3, if_neg (by decide), y4, if_neg (by decide), if_pos y5]; done)
                        | (have z0 := bI_0 h6
                           have z1 := bI_0 h19
                           have z2 := bI_0 h32
                           have z3 := bI_0 h45
                           have z4 := bI_0 h58
                           have y0 := bI_0 h80
                           have y1 := bI_0 h93
                           have y2 := bI_0 h107
                           have y3 := bI_0 h121
                           have y4 := bI_0 h135
                           have y5 := bI_0 h149
                           rw [wName, z0, if_neg (by decide), z1, if_neg (by decide), z2, if_neg (by decide), z3, if_neg (by decide), z4, if_neg (by decide), y0, if_neg (by decide), y1, if_neg (by decide), y2, if_neg (by decide), y3, if_neg (by decide), y4, if_neg (by decide), y5, if_neg (by decide)]; done)
                  · skip
                    refine r_bipush (v := 8) X dX13_nameHere_124 (by decide) ?_
                    refine r_goto (tgt := 158) X dX13_nameHere_126 (by decide) ?_
                    refine r_ireturn X dX13_nameHere_158 rfl (by first | omega | decide | (simp only [rmL, rmA]; omega)) (by first | omega | decide | (simp only [rmL, rmA]; omega)) ?_
                    refine ⟨?_, rfl⟩
                    first
                      | (have z0 := bI_1 h6
                         rw [wName, if_pos z0]; done)
                      | (have z0 := bI_0 h6
                         have z1 := bI_1 h19
                         rw [wName, z0, if_neg (by decide), if_pos z1]; done)
                      | (have z0 := bI_0 h6
                         have z1 := bI_0 h19
                         have z2 := bI_1 h32
                         rw [wName, z0, if_neg (by decide), z1, if_neg (by decide), if_pos z2]; done)
                      | (have z0 := bI_0 h6
                         have z1 := bI_0 h19
                         have z2 := bI_0 h32
                         have z3 := bI_1 h45
                         rw [wName, z0, if_neg (by decide), z1, if_neg (by decide), z2, if_neg (by decide), if_pos z3]; done)
                      | (have z0 := bI_0 h6
                         have z1 := bI_0 h19
                         have z2 := bI_0 h32
                         have z3 := bI_0 h45
                         have z4 := bI_1 h58
                         rw [wName, z0, if_neg (by decide), z1, if_neg (by decide), z2, if_neg (by decide), z3, if_neg (by decide), if_pos z4]; done)
                      | (have z0 := bI_0 h6
                         have z1 := bI_0 h19
                         have z2 := bI_0 h32
                         have z3 := bI_0 h45
                         have z4 := bI_0 h58
                         have y0 := bI_1 h80
                         rw [wName, z0, if_neg (by decide), z1, if_neg (by decide), z2, if_neg (by decide), z3, if_neg (by decide), z4, if_neg (by decide), if_pos y0]; done)
                      | (have z0 := bI_0 h6
                         have z1 := bI_0 h19
                         have z2 := bI_0 h32
                         have z3 := bI_0 h45
                         have z4 := bI_0 h58
                         have y0 := bI_0 h80
                         have y1 := bI_1 h93
                         rw [wName, z0, if_neg (by decide), z1, if_neg (by decide), z2, if_neg (by decide), z3, if_neg (by decide), z4, if_neg (by decide), y0, if_neg (by decide), if_pos y1]; done)
                      | (have z0 := bI_0 h6
                         have z1 := bI_0 h19
                         have z2 := bI_0 h32
                         have z3 := bI_0 h45
                         have z4 := bI_0 h58
                         have y0 := bI_0 h80
                         have y1 := bI_0 h93
                         have y2 := bI_1 h107
                         rw [wName, z0, if_neg (by decide), z1, if_neg (by decide), z2, if_neg (by decide), z3, if_neg (by decide), z4, if_neg (by decide), y0, if_neg (by decide), y1, if_neg (by decide), if_pos y2]; done)
                      | (have z0 := bI_0 h6
                         have z1 := bI_0 h19
                         have z2 := bI_0 h32
                         have z3 := bI_0 h45
                         have z4 := bI_0 h58
                         have y0 := bI_0 h80
                         have y1 := bI_0 h93
                         have y2 := bI_0 h107
                         have y3 := bI_1 h121
                         rw [wName, z0, if_neg (by decide), z1, if_neg (by decide), z2, if_neg (by decide), z3, if_neg (by decide), z4, if_neg (by decide), y0, if_neg (by decide), y1, if_neg (by decide), y2, if_neg (by decide), if_pos y3]; done)
                      | (have z0 := bI_0 h6
                         have z1 := bI_0 h19
                         have z2 := bI_0 h32
                         have z3 := bI_0 h45
                         have z4 := bI_0 h58
                         have y0 := bI_0 h80
                         have y1 := bI_0 h93
                         have y2 := bI_0 h107
                         have y3 := bI_0 h121
                         have y4 := bI_1 h135
                         rw [wName, z0, if_neg (by decide), z1, if_neg (by decide), z2, if_neg (by decide), z3, if_neg (by decide), z4, if_neg (by decide), y0, if_neg (by decide), y1, if_neg (by decide), y2, if_neg (by decide), y3, if_neg (by decide), if_pos y4]; done)
                      | (have z0 := bI_0 h6
                         have z1 := bI_0 h19
                         have z2 := bI_0 h32
                         have z3 := bI_0 h45
                         have z4 := bI_0 h58
                         have y0 := bI_0 h80
                         have y1 := bI_0 h93
                         have y2 := bI_0 h107
                         have y3 := bI_0 h121
                         have y4 := bI_0 h135
                         have y5 := bI_1 h149
                         rw [wName, z0, if_neg (by decide), z1, if_neg (by decide), z2, if_neg (by decide), z3, if_neg (by decide), z4, if_neg (by decide), y0, if_neg (by decide), y1, if_neg (by decide), y2, if_neg (by decide), y3, if_neg (by decide), y4, if_neg (by decide), if_pos y5]; done)
                      | (have z0 := bI_0 h6
                         have z1 := bI_0 h19
                         have z2 := bI_0 h32
                         have z3 := bI_0 h45
                         have z4 := bI_0 h58
                         have y0 := bI_0 h80
                         have y1 := bI_0 h93
                         have y2 := bI_0 h107
                         have y3 := bI_0 h121
                         have y4 := bI_0 h135
                         have y5 := bI_0 h149
                         rw [wName, z0, if_neg (by decide), z1, if_neg (by decide), z2, if_neg (by decide), z3, if_neg (by decide), z4, if_neg (by decide), y0, if_neg (by decide), y1, if_neg (by decide), y2, if_neg (by decide), y3, if_neg (by decide), y4, if_neg (by decide), y5, if_neg (by decide)]; done)
                · skip
                  refine r_bipush (v := 7) X dX13_nameHere_110 (by decide) ?_
                  refine r_goto (tgt := 158) X dX13_nameHere_112 (by decide) ?_
                  refine r_ireturn X dX13_nameHere_158 rfl (by first | omega | decide | (simp only [rmL, rmA]; omega)) (by first | omega | decide | (simp only [rmL, rmA]; omega)) ?_
                  refine ⟨?_, rfl⟩
                  first
                    | (have z0 := bI_1 h6
                       rw [wName, if_pos z0]; done)
                    | (have z0 := bI_0 h6
                       have z1 := bI_1 h19
                       rw [wName, z0, if_neg (by decide), if_pos z1]; done)
                    | (have z0 := bI_0 h6
                       have z1 := bI_0 h19
                       have z2 := bI_1 h32
                       rw [wName, z0, if_neg (by decide), z1, if_neg (by decide), if_pos z2]; done)
                    | (have z0 := bI_0 h6
                       have z1 := bI_0 h19
                       have z2 := bI_0 h32
                       have z3 := bI_1 h45
                       rw [wName, z0, if_neg (by decide), z1, if_neg (by decide), z2, if_neg (by decide), if_pos z3]; done)
                    | (have z0 := bI_0 h6
                       have z1 := bI_0 h19
                       have z2 := bI_0 h32
                       have z3 := bI_0 h45
                       have z4 := bI_1 h58
                       rw [wName, z0, if_neg (by decide), z1, if_neg (by decide), z2, if_neg (by decide), z3, if_neg (by decide), if_pos z4]; done)
                    | (have z0 := bI_0 h6
                       have z1 := bI_0 h19
                       have z2 := bI_0 h32
                       have z3 := bI_0 h45
                       have z4 := bI_0 h58
                       have y0 := bI_1 h80
                       rw [wName, z0, if_neg (by decide), z1, if_neg (by decide), z2, if_neg (by decide), z3, if_neg (by decide), z4, if_neg (by decide), if_pos y0]; done)
                    | (have z0 := bI_0 h6
                       have z1 := bI_0 h19
                       have z2 := bI_0 h32
                       have z3 := bI_0 h45
                       have z4 := bI_0 h58
                       have y0 := bI_0 h80
                       have y1 := bI_1 h93
                       rw [wName, z0, if_neg (by decide), z1, if_neg (by decide), z2, if_neg (by decide), z3, if_neg (by decide), z4, if_neg (by decide), y0, if_neg (by decide), if_pos y1]; done)
                    | (have z0 := bI_0 h6
                       have z1 := bI_0 h19
                       have z2 := bI_0 h32
                       have z3 := bI_0 h45
                       have z4 := bI_0 h58
                       have y0 := bI_0 h80
                       have y1 := bI_0 h93
                       have y2 := bI_1 h107
                       rw [wName, z0, if_neg (by decide), z1, if_neg (by decide), z2, if_neg (by decide), z3, if_neg (by decide), z4, if_neg (by decide), y0, if_neg (by decide), y1, if_neg (by decide), if_pos y2]; done)
                    | (have z0 := bI_0 h6
                       have z1 := bI_0 h19
                       have z2 := bI_0 h32
                       have z3 := bI_0 h45
                       have z4 := bI_0 h58
                       have y0 := bI_0 h80
                       have y1 := bI_0 h93
                       have y2 := bI_0 h107
                       have y3 := bI_1 h121
                       rw [wName, z0, if_neg (by decide), z1, if_neg (by decide), z2, if_neg (by decide), z3, if_neg (by decide), z4, if_neg (by decide), y0, if_neg (by decide), y1, if_neg (by decide), y2, if_neg (by decide), if_pos y3]; done)
                    | (have z0 := bI_0 h6
                       have z1 := bI_0 h19
                       have z2 := bI_0 h32
                       have z3 := bI_0 h45
                       have z4 := bI_0 h58
                       have y0 := bI_0 h80
                       have y1 := bI_0 h93
                       have y2 := bI_0 h107
                       have y3 := bI_0 h121
                       have y4 := bI_1 h135
                       rw [wName, z0, if_neg (by decide), z1, if_neg (by decide), z2, if_neg (by decide), z3, if_neg (by decide), z4, if_neg (by decide), y0, if_neg (by decide), y1, if_neg (by decide), y2, if_neg (by decide), y3, if_neg (by decide), if_pos y4]; done)
                    | (have z0 := bI_0 h6
                       have z1 := bI_0 h19
                       have z2 := bI_0 h32
                       have z3 := bI_0 h45
                       have z4 := bI_0 h58
                       have y0 := bI_0 h80
                       have y1 := bI_0 h93
                       have y2 := bI_0 h107
                       have y3 := bI_0 h121
                       have y4 := bI_0 h135
                       have y5 := bI_1 h149
                       rw [wName, z0, if_neg (by decide), z1, if_neg (by decide), z2, if_neg (by decide), z3, if_neg (by decide), z4, if_neg (by decide), y0, if_neg (by decide), y1, if_neg (by decide), y2, if_neg (by decide), y3, if_neg (by decide), y4, if_neg (by decide), if_pos y5]; done)
                    | (have z0 := bI_0 h6
                       have z1 := bI_0 h19
                       have z2 := bI_0 h32
                       have z3 := bI_0 h45
                       have z4 := bI_0 h58
                       have y0 := bI_0 h80
                       have y1 := bI_0 h93
                       have y2 := bI_0 h107
                       have y3 := bI_0 h121
                       have y4 := bI_0 h135
                       have y5 := bI_0 h149
                       rw [wName, z0, if_neg (by decide), z1, if_neg (by decide), z2, if_neg (by decide), z3, if_neg (by decide), z4, if_neg (by decide), y0, if_neg (by decide), y1, if_neg (by decide), y2, if_neg (by decide), y3, if_neg (by decide), y4, if_neg (by decide), y5, if_neg (by decide)]; done)
              · skip
                refine r_bipush (v := 6) X dX13_nameHere_96 (by decide) ?_
                refine r_goto (tgt := 158) X dX13_nameHere_98 (by decide) ?_
                refine r_ireturn X dX13_nameHere_158 rfl (by first | omega | decide | (simp only [rmL, rmA]; omega)) (by first | omega | decide | (simp only [rmL, rmA]; omega)) ?_
                refine ⟨?_, rfl⟩
                first
                  | (have z0 := bI_1 h6
                     rw [wName, if_pos z0]; done)
                  | (have z0 := bI_0 h6
                     have z1 := bI_1 h19
                     rw [wName, z0, if_neg (by decide), if_pos z1]; done)
                  | (have z0 := bI_0 h6
                     have z1 := bI_0 h19
                     have z2 := bI_1 h32
                     rw [wName, z0, if_neg (by decide), z1, if_neg (by decide), if_pos z2]; done)
                  | (have z0 := bI_0 h6
                     have z1 := bI_0 h19
                     have z2 := bI_0 h32
                     have z3 := bI_1 h45
                     rw [wName, z0, if_neg (by decide), z1, if_neg (by decide), z2, if_neg (by decide), if_pos z3]; done)
                  | (have z0 := bI_0 h6
                     have z1 := bI_0 h19
                     have z2 := bI_0 h32
                     have z3 := bI_0 h45
                     have z4 := bI_1 h58
                     rw [wName, z0, if_neg (by decide), z1, if_neg (by decide), z2, if_neg (by decide), z3, if_neg (by decide), if_pos z4]; done)
                  | (have z0 := bI_0 h6
                     have z1 := bI_0 h19
                     have z2 := bI_0 h32
                     have z3 := bI_0 h45
                     have z4 := bI_0 h58
                     have y0 := bI_1 h80
                     rw [wName, z0, if_neg (by decide), z1, if_neg (by decide), z2, if_neg (by decide), z3, if_neg (by decide), z4, if_neg (by decide), if_pos y0]; done)
                  | (have z0 := bI_0 h6
                     have z1 := bI_0 h19
                     have z2 := bI_0 h32
                     have z3 := bI_0 h45
                     have z4 := bI_0 h58
                     have y0 := bI_0 h80
                     have y1 := bI_1 h93
                     rw [wName, z0, if_neg (by decide), z1, if_neg (by decide), z2, if_neg (by decide), z3, if_neg (by decide), z4, if_neg (by decide), y0, if_neg (by decide), if_pos y1]; done)
                  | (have z0 := bI_0 h6
                     have z1 := bI_0 h19
                     have z2 := bI_0 h32
                     have z3 := bI_0 h45
                     have z4 := bI_0 h58
                     have y0 := bI_0 h80
                     have y1 := bI_0 h93
                     have y2 := bI_1 h107
                     rw [wName, z0, if_neg (by decide), z1, if_neg (by decide), z2, if_neg (by decide), z3, if_neg (by decide), z4, if_neg (by decide), y0, if_neg (by decide), y1, if_neg (by decide), if_pos y2]; done)
                  | (have z0 := bI_0 h6
                     have z1 := bI_0 h19
                     have z2 := bI_0 h32
                     have z3 := bI_0 h45
                     have z4 := bI_0 h58
                     have y0 := bI_0 h80
                     have y1 := bI_0 h93
                     have y2 := bI_0 h107
                     have y3 := bI_1 h121
                     rw [wName, z0, if_neg (by decide), z1, if_neg (by decide), z2, if_neg (by decide), z3, if_neg (by decide), z4, if_neg (by decide), y0, if_neg (by decide), y1, if_neg (by decide), y2, if_neg (by decide), if_pos y3]; done)
                  | (have z0 := bI_0 h6
                     have z1 := bI_0 h19
                     have z2 := bI_0 h32
                     have z3 := bI_0 h45
                     have z4 := bI_0 h58
                     have y0 := bI_0 h80
                     have y1 := bI_0 h93
                     have y2 := bI_0 h107
                     have y3 := bI_0 h121
                     have y4 := bI_1 h135
                     rw [wName, z0, if_neg (by decide), z1, if_neg (by decide), z2, if_neg (by decide), z3, if_neg (by decide), z4, if_neg (by decide), y0, if_neg (by decide), y1, if_neg (by decide), y2, if_neg (by decide), y3, if_neg (by decide), if_pos y4]; done)
                  | (have z0 := bI_0 h6
                     have z1 := bI_0 h19
                     have z2 := bI_0 h32
                     have z3 := bI_0 h45
                     have z4 := bI_0 h58
                     have y0 := bI_0 h80
                     have y1 := bI_0 h93
                     have y2 := bI_0 h107
                     have y3 := bI_0 h121
                     have y4 := bI_0 h135
                     have y5 := bI_1 h149
                     rw [wName, z0, if_neg (by decide), z1, if_neg (by decide), z2, if_neg (by decide), z3, if_neg (by decide), z4, if_neg (by decide), y0, if_neg (by decide), y1, if_neg (by decide), y2, if_neg (by decide), y3, if_neg (by decide), y4, if_neg (by decide), if_pos y5]; done)
                  | (have z0 := bI_0 h6
                     have z1 := bI_0 h19
                     have z2 := bI_0 h32
                     have z3 := bI_0 h45
                     have z4 := bI_0 h58
                     have y0 := bI_0 h80
                     have y1 := bI_0 h93
                     have y2 := bI_0 h107
                     have y3 := bI_0 h121
                     have y4 := bI_0 h135
                     have y5 := bI_0 h149
                     rw [wName, z0, if_neg (by decide), z1, if_neg (by decide), z2, if_neg (by decide), z3, if_neg (by decide), z4, if_neg (by decide), y0, if_neg (by decide), y1, if_neg (by decide), y2, if_neg (by decide), y3, if_neg (by decide), y4, if_neg (by decide), y5, if_neg (by decide)]; done)
            · skip
              refine r_iconst (v := 5) X dX13_nameHere_83 (by decide) ?_
              refine r_goto (tgt := 158) X dX13_nameHere_84 (by decide) ?_
              refine r_ireturn X dX13_nameHere_158 rfl (by first | omega | decide | (simp only [rmL, rmA]; omega)) (by first | omega | decide | (simp only [rmL, rmA]; omega)) ?_
              refine ⟨?_, rfl⟩
              first
                | (have z0 := bI_1 h6
                   rw [wName, if_pos z0]; done)
                | (have z0 := bI_0 h6
                   have z1 := bI_1 h19
                   rw [wName, z0, if_neg (by decide), if_pos z1]; done)
                | (have z0 := bI_0 h6
                   have z1 := bI_0 h19
                   have z2 := bI_1 h32
                   rw [wName, z0, if_neg (by decide), z1, if_neg (by decide), if_pos z2]; done)
                | (have z0 := bI_0 h6
                   have z1 := bI_0 h19
                   have z2 := bI_0 h32
                   have z3 := bI_1 h45
                   rw [wName, z0, if_neg (by decide), z1, if_neg (by decide), z2, if_neg (by decide), if_pos z3]; done)
                | (have z0 := bI_0 h6
                   have z1 := bI_0 h19
                   have z2 := bI_0 h32
                   have z3 := bI_0 h45
                   have z4 := bI_1 h58
                   rw [wName, z0, if_neg (by decide), z1, if_neg (by decide), z2, if_neg (by decide), z3, if_neg (by decide), if_pos z4]; done)
                | (have z0 := bI_0 h6
                   have z1 := bI_0 h19
                   have z2 := bI_0 h32
                   have z3 := bI_0 h45
                   have z4 := bI_0 h58
                   have y0 := bI_1 h80
                   rw [wName, z0, if_neg (by decide), z1, if_neg (by decide), z2, if_neg (by decide), z3, if_neg (by decide), z4, if_neg (by decide), if_pos y0]; done)
                | (have z0 := bI_0 h6
                   have z1 := bI_0 h19
                   have z2 := bI_0 h32
                   have z3 := bI_0 h45
                   have z4 := bI_0 h58
                   have y0 := bI_0 h80
                   have y1 := bI_1 h93
                   rw [wName, z0, if_neg (by decide), z1, if_neg (by decide), z2, if_neg (by decide), z3, if_neg (by decide), z4, if_neg (by decide), y0, if_neg (by decide), if_pos y1]; done)
                | (have z0 := bI_0 h6
                   have z1 := bI_0 h19
                   have z2 := bI_0 h32
                   have z3 := bI_0 h45
                   have z4 := bI_0 h58
                   have y0 := bI_0 h80
                   have y1 := bI_0 h93
                   have y2 := bI_1 h107
                   rw [wName, z0, if_neg (by decide), z1, if_neg (by decide), z2, if_neg (by decide), z3, if_neg (by decide), z4, if_neg (by decide), y0, if_neg (by decide), y1, if_neg (by decide), if_pos y2]; done)
                | (have z0 := bI_0 h6
                   have z1 := bI_0 h19
                   have z2 := bI_0 h32
                   have z3 := bI_0 h45
                   have z4 := bI_0 h58
                   have y0 := bI_0 h80
                   have y1 := bI_0 h93
                   have y2 := bI_0 h107
                   have y3 := bI_1 h121
                   rw [wName, z0, if_neg (by decide), z1, if_neg (by decide), z2, if_neg (by decide), z3, if_neg (by decide), z4, if_neg (by decide), y0, if_neg (by decide), y1, if_neg (by decide), y2, if_neg (by decide), if_pos y3]; done)
                | (have z0 := bI_0 h6
                   have z1 := bI_0 h19
                   have z2 := bI_0 h32
                   have z3 := bI_0 h45
                   have z4 := bI_0 h58
                   have y0 := bI_0 h80
                   have y1 := bI_0 h93
                   have y2 := bI_0 h107
                   have y3 := bI_0 h121
                   have y4 := bI_1 h135
                   rw [wName, z0, if_neg (by decide), z1, if_neg (by decide), z2, if_neg (by decide), z3, if_neg (by decide), z4, if_neg (by decide), y0, if_neg (by decide), y1, if_neg (by decide), y2, if_neg (by decide), y3, if_neg (by decide), if_pos y4]; done)
                | (have z0 := bI_0 h6
                   have z1 := bI_0 h19
                   have z2 := bI_0 h32
                   have z3 := bI_0 h45
                   have z4 := bI_0 h58
                   have y0 := bI_0 h80
                   have y1 := bI_0 h93
                   have y2 := bI_0 h107
                   have y3 := bI_0 h121
                   have y4 := bI_0 h135
                   have y5 := bI_1 h149
                   rw [wName, z0, if_neg (by decide), z1, if_neg (by decide), z2, if_neg (by decide), z3, if_neg (by decide), z4, if_neg (by decide), y0, if_neg (by decide), y1, if_neg (by decide), y2, if_neg (by decide), y3, if_neg (by decide), y4, if_neg (by decide), if_pos y5]; done)
                | (have z0 := bI_0 h6
                   have z1 := bI_0 h19
                   have z2 := bI_0 h32
                   have z3 := bI_0 h45
                   have z4 := bI_0 h58
                   have y0 := bI_0 h80
                   have y1 := bI_0 h93
                   have y2 := bI_0 h107
                   have y3 := bI_0 h121
                   have y4 := bI_0 h135
                   have y5 := bI_0 h149
                   rw [wName, z0, if_neg (by decide), z1, if_neg (by decide), z2, if_neg (by decide), z3, if_neg (by decide), z4, if_neg (by decide), y0, if_neg (by decide), y1, if_neg (by decide), y2, if_neg (by decide), y3, if_neg (by decide), y4, if_neg (by decide), y5, if_neg (by decide)]; done)
          · skip
            refine r_iconst (v := 4) X dX13_nameHere_61 (by decide) ?_
            refine r_goto (tgt := 66) X dX13_nameHere_62 (by decide) ?_
            refine r_istore_n X dX13_nameHere_66 rfl (by decide) rfl ?_
            refine r_iload_n X dX13_nameHere_67 rfl rfl ?_
            refine r_iconst (v := -1) X dX13_nameHere_68 (by decide) ?_
            refine r_icmp_eq (tgt := 74) X dX13_nameHere_69 (by decide) (fun h69 => ?_) (fun h69 => ?_)
            · exact absurd h69 (by decide)
            refine r_iload_n X dX13_nameHere_72 rfl rfl ?_
            refine r_ireturn X dX13_nameHere_73 rfl (by first | omega | decide | (simp only [rmL, rmA]; omega)) (by first | omega | decide | (simp only [rmL, rmA]; omega)) ?_
            refine ⟨?_, rfl⟩
            first
              | (have z0 := bI_1 h6
                 rw [wName, if_pos z0]; done)
              | (have z0 := bI_0 h6
                 have z1 := bI_1 h19
                 rw [wName, z0, if_neg (by decide), if_pos z1]; done)
              | (have z0 := bI_0 h6
                 have z1 := bI_0 h19
                 have z2 := bI_1 h32
                 rw [wName, z0, if_neg (by decide), z1, if_neg (by decide), if_pos z2]; done)
              | (have z0 := bI_0 h6
                 have z1 := bI_0 h19
                 have z2 := bI_0 h32
                 have z3 := bI_1 h45
                 rw [wName, z0, if_neg (by decide), z1, if_neg (by decide), z2, if_neg (by decide), if_pos z3]; done)
              | (have z0 := bI_0 h6
                 have z1 := bI_0 h19
                 have z2 := bI_0 h32
                 have z3 := bI_0 h45
                 have z4 := bI_1 h58
                 rw [wName, z0, if_neg (by decide), z1, if_neg (by decide), z2, if_neg (by decide), z3, if_neg (by decide), if_pos z4]; done)
              | (have z0 := bI_0 h6
                 have z1 := bI_0 h19
                 have z2 := bI_0 h32
                 have z3 := bI_0 h45
                 have z4 := bI_0 h58
                 have y0 := bI_1 h80
                 rw [wName, z0, if_neg (by decide), z1, if_neg (by decide), z2, if_neg (by decide), z3, if_neg (by decide), z4, if_neg (by decide), if_pos y0]; done)
              | (have z0 := bI_0 h6
                 have z1 := bI_0 h19
                 have z2 := bI_0 h32
                 have z3 := bI_0 h45
                 have z4 := bI_0 h58
                 have y0 := bI_0 h80
                 have y1 := bI_1 h93
                 rw [wName, z0, if_neg (by decide), z1, if_neg (by decide), z2, if_neg (by decide), z3, if_neg (by decide), z4, if_neg (by decide), y0, if_neg (by decide), if_pos y1]; done)
              | (have z0 := bI_0 h6
                 have z1 := bI_0 h19
                 have z2 := bI_0 h32
                 have z3 := bI_0 h45
                 have z4 := bI_0 h58
                 have y0 := bI_0 h80
                 have y1 := bI_0 h93
                 have y2 := bI_1 h107
                 rw [wName, z0, if_neg (by decide), z1, if_neg (by decide), z2, if_neg (by decide), z3, if_neg (by decide), z4, if_neg (by decide), y0, if_neg (by decide), y1, if_neg (by decide), if_pos y2]; done)
              | (have z0 := bI_0 h6
                 have z1 := bI_0 h19
                 have z2 := bI_0 h32
                 have z3 := bI_0 h45
                 have z4 := bI_0 h58
                 have y0 := bI_0 h80
                 have y1 := bI_0 h93
                 have y2 := bI_0 h107
                 have y3 := bI_1 h121
                 rw [wName, z0, if_neg (by decide), z1, if_neg (by decide), z2, if_neg (by decide), z3, if_neg (by decide), z4, if_neg (by decide), y0, if_neg (by decide), y1, if_neg (by decide), y2, if_neg (by decide), if_pos y3]; done)
              | (have z0 := bI_0 h6
                 have z1 := bI_0 h19
                 have z2 := bI_0 h32
                 have z3 := bI_0 h45
                 have z4 := bI_0 h58
                 have y0 := bI_0 h80
                 have y1 := bI_0 h93
                 have y2 := bI_0 h107
                 have y3 := bI_0 h121
                 have y4 := bI_1 h135
                 rw [wName, z0, if_neg (by decide), z1, if_neg (by decide), z2, if_neg (by decide), z3, if_neg (by decide), z4, if_neg (by decide), y0, if_neg (by decide), y1, if_neg (by decide), y2, if_neg (by decide), y3, if_neg (by decide), if_pos y4]; done)
              | (have z0 := bI_0 h6
                 have z1 := bI_0 h19
                 have z2 := bI_0 h32
                 have z3 := bI_0 h45
                 have z4 := bI_0 h58
                 have y0 := bI_0 h80
                 have y1 := bI_0 h93
                 have y2 := bI_0 h107
                 have y3 := bI_0 h121
                 have y4 := bI_0 h135
                 have y5 := bI_1 h149
                 rw [wName, z0, if_neg (by decide), z1, if_neg (by decide), z2, if_neg (by decide), z3, if_neg (by decide), z4, if_neg (by decide), y0, if_neg (by decide), y1, if_neg (by decide), y2, if_neg (by decide), y3, if_neg (by decide), y4, if_neg (by decide), if_pos y5]; done)
              | (have z0 := bI_0 h6
                 have z1 := bI_0 h19
                 have z2 := bI_0 h32
                 have z3 := bI_0 h45
                 have z4 := bI_0 h58
                 have y0 := bI_0 h80
                 have y1 := bI_0 h93
                 have y2 := bI_0 h107
                 have y3 := bI_0 h121
                 have y4 := bI_0 h135
                 have y5 := bI_0 h149
                 rw [wName, z0, if_neg (by decide), z1, if_neg (by decide), z2, if_neg (by decide), z3, if_neg (by decide), z4, if_neg (by decide), y0, if_neg (by decide), y1, if_neg (by decide), y2, if_neg (by decide), y3, if_neg (by decide), y4, if_neg (by decide), y5, if_neg (by decide)]; done)
        · skip
          refine r_iconst (v := 3) X dX13_nameHere_48 (by decide) ?_
          refine r_goto (tgt := 66) X dX13_nameHere_49 (by decide) ?_
          refine r_istore_n X dX13_nameHere_66 rfl (by decide) rfl ?_
          refine r_iload_n X dX13_nameHere_67 rfl rfl ?_
          refine r_iconst (v := -1) X dX13_nameHere_68 (by decide) ?_
          refine r_icmp_eq (tgt := 74) X dX13_nameHere_69 (by decide) (fun h69 => ?_) (fun h69 => ?_)
          · exact absurd h69 (by decide)
          refine r_iload_n X dX13_nameHere_72 rfl rfl ?_
          refine r_ireturn X dX13_nameHere_73 rfl (by first | omega | decide | (simp only [rmL, rmA]; omega)) (by first | omega | decide | (simp only [rmL, rmA]; omega)) ?_
          refine ⟨?_, rfl⟩
          first
            | (have z0 := bI_1 h6
               rw [wName, if_pos z0]; done)
            | (have z0 := bI_0 h6
               have z1 := bI_1 h19
               rw [wName, z0, if_neg (by decide), if_pos z1]; done)
            | (have z0 := bI_0 h6
               have z1 := bI_0 h19
               have z2 := bI_1 h32
               rw [wName, z0, if_neg (by decide), z1, if_neg (by decide), if_pos z2]; done)
            | (have z0 := bI_0 h6
               have z1 := bI_0 h19
               have z2 := bI_0 h32
               have z3 := bI_1 h45
               rw [wName, z0, if_neg (by decide), z1, if_neg (by decide), z2, if_neg (by decide), if_pos z3]; done)
            | (have z0 := bI_0 h6
               have z1 := bI_0 h19
               have z2 := bI_0 h32
               have z3 := bI_0 h45
               have z4 := bI_1 h58
               rw [wName, z0, if_neg (by decide), z1, if_neg (by decide), z2, if_neg (by decide), z3, if_neg (by decide), if_pos z4]; done)
            | (have z0 := bI_0 h6
               have z1 := bI_0 h19
               have z2 := bI_0 h32
               have z3 := bI_0 h45
               have z4 := bI_0 h58
               have y0 := bI_1 h80
               rw [wName, z0, if_neg (by decide), z1, if_neg (by decide), z2, if_neg (by decide), z3, if_neg (by decide), z4, if_neg (by decide), if_pos y0]; done)
            | (have z0 := bI_0 h6
               have z1 := bI_0 h19
               have z2 := bI_0 h32
               have z3 := bI_0 h45
               have z4 := bI_0 h58
               have y0 := bI_0 h80
               have y1 := bI_1 h93
               rw [wName, z0, if_neg (by decide), z1, if_neg (by decide), z2, if_neg (by decide), z3, if_neg (by decide), z4, if_neg (by decide), y0, if_neg (by decide), if_pos y1]; done)
            | (have z0 := bI_0 h6
               have z1 := bI_0 h19
               have z2 := bI_0 h32
               have z3 := bI_0 h45
               have z4 := bI_0 h58
               have y0 := bI_0 h80
               have y1 := bI_0 h93
               have y2 := bI_1 h107
               rw [wName, z0, if_neg (by decide), z1, if_neg (by decide), z2, if_neg (by decide), z3, if_neg (by decide), z4, if_neg (by decide), y0, if_neg (by decide), y1, if_neg (by decide), if_pos y2]; done)
            | (have z0 := bI_0 h6
               have z1 := bI_0 h19
               have z2 := bI_0 h32
               have z3 := bI_0 h45
               have z4 := bI_0 h58
               have y0 := bI_0 h80
               have y1 := bI_0 h93
               have y2 := bI_0 h107
               have y3 := bI_1 h121
               rw [wName, z0, if_neg (by decide), z1, if_neg (by decide), z2, if_neg (by decide), z3, if_neg (by decide), z4, if_neg (by decide), y0, if_neg (by decide), y1, if_neg (by decide), y2, if_neg (by decide), if_pos y3]; done)
            | (have z0 := bI_0 h6
               have z1 := bI_0 h19
               have z2 := bI_0 h32
               have z3 := bI_0 h45
               have z4 := bI_0 h58
               have y0 := bI_0 h80
               have y1 := bI_0 h93
               have y2 := bI_0 h107
               have y3 := bI_0 h121
               have y4 := bI_1 h135
               rw [wName, z0, if_neg (by decide), z1, if_neg (by decide), z2, if_neg (by decide), z3, if_neg (by decide), z4, if_neg (by decide), y0, if_neg (by decide), y1, if_neg (by decide), y2, if_neg (by decide), y3, if_neg (by decide), if_pos y4]; done)
            | (have z0 := bI_0 h6
               have z1 := bI_0 h19
               have z2 := bI_0 h32
               have z3 := bI_0 h45
               have z4 := bI_0 h58
               have y0 := bI_0 h80
               have y1 := bI_0 h93
               have y2 := bI_0 h107
               have y3 := bI_0 h121
               have y4 := bI_0 h135
               have y5 := bI_1 h149
               rw [wName, z0, if_neg (by decide), z1, if_neg (by decide), z2, if_neg (by decide), z3, if_neg (by decide), z4, if_neg (by decide), y0, if_neg (by decide), y1, if_neg (by decide), y2, if_neg (by decide), y3, if_neg (by decide), y4, if_neg (by decide), if_pos y5]; done)
            | (have z0 := bI_0 h6
               have z1 := bI_0 h19
               have z2 := bI_0 h32
               have z3 := bI_0 h45
               have z4 := bI_0 h58
               have y0 := bI_0 h80
               have y1 := bI_0 h93
               have y2 := bI_0 h107
               have y3 := bI_0 h121
               have y4 := bI_0 h135
               have y5 := bI_0 h149
               rw [wName, z0, if_neg (by decide), z1, if_neg (by decide), z2, if_neg (by decide), z3, if_neg (by decide), z4, if_neg (by decide), y0, if_neg (by decide), y1, if_neg (by decide), y2, if_neg (by decide), y3, if_neg (by decide), y4, if_neg (by decide), y5, if_neg (by decide)]; done)
      · skip
        refine r_iconst (v := 2) X dX13_nameHere_35 (by decide) ?_
        refine r_goto (tgt := 66) X dX13_nameHere_36 (by decide) ?_
        refine r_istore_n X dX13_nameHere_66 rfl (by decide) rfl ?_
        refine r_iload_n X dX13_nameHere_67 rfl rfl ?_
        refine r_iconst (v := -1) X dX13_nameHere_68 (by decide) ?_
        refine r_icmp_eq (tgt := 74) X dX13_nameHere_69 (by decide) (fun h69 => ?_) (fun h69 => ?_)
        · exact absurd h69 (by decide)
        refine r_iload_n X dX13_nameHere_72 rfl rfl ?_
        refine r_ireturn X dX13_nameHere_73 rfl (by first | omega | decide | (simp only [rmL, rmA]; omega)) (by first | omega | decide | (simp only [rmL, rmA]; omega)) ?_
        refine ⟨?_, rfl⟩
        first
          | (have z0 := bI_1 h6
             rw [wName, if_pos z0]; done)
          | (have z0 := bI_0 h6
             have z1 := bI_1 h19
             rw [wName, z0, if_neg (by decide), if_pos z1]; done)
          | (have z0 := bI_0 h6
             have z1 := bI_0 h19
             have z2 := bI_1 h32
             rw [wName, z0, if_neg (by decide), z1, if_neg (by decide), if_pos z2]; done)
          | (have z0 := bI_0 h6
             have z1 := bI_0 h19
             have z2 := bI_0 h32
             have z3 := bI_1 h45
             rw [wName, z0, if_neg (by decide), z1, if_neg (by decide), z2, if_neg (by decide), if_pos z3]; done)
          | (have z0 := bI_0 h6
             have z1 := bI_0 h19
             have z2 := bI_0 h32
             have z3 := bI_0 h45
             have z4 := bI_1 h58
             rw [wName, z0, if_neg (by decide), z1, if_neg (by decide), z2, if_neg (by decide), z3, if_neg (by decide), if_pos z4]; done)
          | (have z0 := bI_0 h6
             have z1 := bI_0 h19
             have z2 := bI_0 h32
             have z3 := bI_0 h45
             have z4 := bI_0 h58
             have y0 := bI_1 h80
             rw [wName, z0, if_neg (by decide), z1, if_neg (by decide), z2, if_neg (by decide), z3, if_neg (by decide), z4, if_neg (by decide), if_pos y0]; done)
          | (have z0 := bI_0 h6
             have z1 := bI_0 h19
             have z2 := bI_0 h32
             have z3 := bI_0 h45
             have z4 := bI_0 h58
             have y0 := bI_0 h80
             have y1 := bI_1 h93
             rw [wName, z0, if_neg (by decide), z1, if_neg (by decide), z2, if_neg (by decide), z3, if_neg (by decide), z4, if_neg (by decide), y0, if_neg (by decide), if_pos y1]; done)
          | (have z0 := bI_0 h6
             have z1 := bI_0 h19
             have z2 := bI_0 h32
             have z3 := bI_0 h45
             have z4 := bI_0 h58
             have y0 := bI_0 h80
             have y1 := bI_0 h93
             have y2 := bI_1 h107
             rw [wName, z0, if_neg (by decide), z1, if_neg (by decide), z2, if_neg (by decide), z3, if_neg (by decide), z4, if_neg (by decide), y0, if_neg (by decide), y1, if_neg (by decide), if_pos y2]; done)
          | (have z0 := bI_0 h6
             have z1 := bI_0 h19
             have z2 := bI_0 h32
             have z3 := bI_0 h45
             have z4 := bI_0 h58
             have y0 := bI_0 h80
             have y1 := bI_0 h93
             have y2 := bI_0 h107
             have y3 := bI_1 h121
             rw [wName, z0, if_neg (by decide), z1, if_neg (by decide), z2, if_neg (by decide), z3, if_neg (by decide), z4, if_neg (by decide), y0, if_neg (by decide), y1, if_neg (by decide), y2, if_neg (by decide), if_pos y3]; done)
          | (have z0 := bI_0 h6
             have z1 := bI_0 h19
             have z2 := bI_0 h32
             have z3 := bI_0 h45
             have z4 := bI_0 h58
             have y0 := bI_0 h80
             have y1 := bI_0 h93
             have y2 := bI_0 h107
             have y3 := bI_0 h121
             have y4 := bI_1 h135
             rw [wName, z0, if_neg (by decide), z1, if_neg (by decide), z2, if_neg (by decide), z3, if_neg (by decide), z4, if_neg (by decide), y0, if_neg (by decide), y1, if_neg (by decide), y2, if_neg (by decide), y3, if_neg (by decide), if_pos y4]; done)
          | (have z0 := bI_0 h6
             have z1 := bI_0 h19
             have z2 := bI_0 h32
             have z3 := bI_0 h45
             have z4 := bI_0 h58
             have y0 := bI_0 h80
             have y1 := bI_0 h93
             have y2 := bI_0 h107
             have y3 := bI_0 h121
             have y4 := bI_0 h135
             have y5 := bI_1 h149
             rw [wName, z0, if_neg (by decide), z1, if_neg (by decide), z2, if_neg (by decide), z3, if_neg (by decide), z4, if_neg (by decide), y0, if_neg (by decide), y1, if_neg (by decide), y2, if_neg (by decide), y3, if_neg (by decide), y4, if_neg (by decide), if_pos y5]; done)
          | (have z0 := bI_0 h6
             have z1 := bI_0 h19
             have z2 := bI_0 h32
             have z3 := bI_0 h45
             have z4 := bI_0 h58
             have y0 := bI_0 h80
             have y1 := bI_0 h93
             have y2 := bI_0 h107
             have y3 := bI_0 h121
             have y4 := bI_0 h135
             have y5 := bI_0 h149
             rw [wName, z0, if_neg (by decide), z1, if_neg (by decide), z2, if_neg (by decide), z3, if_neg (by decide), z4, if_neg (by decide), y0, if_neg (by decide), y1, if_neg (by decide), y2, if_neg (by decide), y3, if_neg (by decide), y4, if_neg (by decide), y5, if_neg (by decide)]; done)
    · skip
      refine r_iconst (v := 1) X dX13_nameHere_22 (by decide) ?_
      refine r_goto (tgt := 66) X dX13_nameHere_23 (by decide) ?_
      refine r_istore_n X dX13_nameHere_66 rfl (by decide) rfl ?_
      refine r_iload_n X dX13_nameHere_67 rfl rfl ?_
      refine r_iconst (v := -1) X dX13_nameHere_68 (by decide) ?_
      refine r_icmp_eq (tgt := 74) X dX13_nameHere_69 (by decide) (fun h69 => ?_) (fun h69 => ?_)
      · exact absurd h69 (by decide)
      refine r_iload_n X dX13_nameHere_72 rfl rfl ?_
      refine r_ireturn X dX13_nameHere_73 rfl (by first | omega | decide | (simp only [rmL, rmA]; omega)) (by first | omega | decide | (simp only [rmL, rmA]; omega)) ?_
      refine ⟨?_, rfl⟩
      first
        | (have z0 := bI_1 h6
           rw [wName, if_pos z0]; done)
        | (have z0 := bI_0 h6
           have z1 := bI_1 h19
           rw [wName, z0, if_neg (by decide), if_pos z1]; done)
        | (have z0 := bI_0 h6
           have z1 := bI_0 h19
           have z2 := bI_1 h32
           rw [wName, z0, if_neg (by decide), z1, if_neg (by decide), if_pos z2]; done)
        | (have z0 := bI_0 h6
           have z1 := bI_0 h19
           have z2 := bI_0 h32
           have z3 := bI_1 h45
           rw [wName, z0, if_neg (by decide), z1, if_neg (by decide), z2, if_neg (by decide), if_pos z3]; done)
        | (have z0 := bI_0 h6
           have z1 := bI_0 h19
           have z2 := bI_0 h32
           have z3 := bI_0 h45
           have z4 := bI_1 h58
           rw [wName, z0, if_neg (by decide), z1, if_neg (by decide), z2, if_neg (by decide), z3, if_neg (by decide), if_pos z4]; done)
        | (have z0 := bI_0 h6
           have z1 := bI_0 h19
           have z2 := bI_0 h32
           have z3 := bI_0 h45
           have z4 := bI_0 h58
           have y0 := bI_1 h80
           rw [wName, z0, if_neg (by decide), z1, if_neg (by decide), z2, if_neg (by decide), z3, if_neg (by decide), z4, if_neg (by decide), if_pos y0]; done)
        | (have z0 := bI_0 h6
           have z1 := bI_0 h19
           have z2 := bI_0 h32
           have z3 := bI_0 h45
           have z4 := bI_0 h58
           have y0 := bI_0 h80
           have y1 := bI_1 h93
           rw [wName, z0, if_neg (by decide), z1, if_neg (by decide), z2, if_neg (by decide), z3, if_neg (by decide), z4, if_neg (by decide), y0, if_neg (by decide), if_pos y1]; done)
        | (have z0 := bI_0 h6
           have z1 := bI_0 h19
           have z2 := bI_0 h32
           have z3 := bI_0 h45
           have z4 := bI_0 h58
           have y0 := bI_0 h80
           have y1 := bI_0 h93
           have y2 := bI_1 h107
           rw [wName, z0, if_neg (by decide), z1, if_neg (by decide), z2, if_neg (by decide), z3, if_neg (by decide), z4, if_neg (by decide), y0, if_neg (by decide), y1, if_neg (by decide), if_pos y2]; done)
        | (have z0 := bI_0 h6
           have z1 := bI_0 h19
           have z2 := bI_0 h32
           have z3 := bI_0 h45
           have z4 := bI_0 h58
           have y0 := bI_0 h80
           have y1 := bI_0 h93
           have y2 := bI_0 h107
           have y3 := bI_1 h121
           rw [wName, z0, if_neg (by decide), z1, if_neg (by decide), z2, if_neg (by decide), z3, if_neg (by decide), z4, if_neg (by decide), y0, if_neg (by decide), y1, if_neg (by decide), y2, if_neg (by decide), if_pos y3]; done)
        | (have z0 := bI_0 h6
           have z1 := bI_0 h19
           have z2 := bI_0 h32
           have z3 := bI_0 h45
           have z4 := bI_0 h58
           have y0 := bI_0 h80
           have y1 := bI_0 h93
           have y2 := bI_0 h107
           have y3 := bI_0 h121
           have y4 := bI_1 h135
           rw [wName, z0, if_neg (by decide), z1, if_neg (by decide), z2, if_neg (by decide), z3, if_neg (by decide), z4, if_neg (by decide), y0, if_neg (by decide), y1, if_neg (by decide), y2, if_neg (by decide), y3, if_neg (by decide), if_pos y4]; done)
        | (have z0 := bI_0 h6
           have z1 := bI_0 h19
           have z2 := bI_0 h32
           have z3 := bI_0 h45
           have z4 := bI_0 h58
           have y0 := bI_0 h80
           have y1 := bI_0 h93
           have y2 := bI_0 h107
           have y3 := bI_0 h121
           have y4 := bI_0 h135
           have y5 := bI_1 h149
           rw [wName, z0, if_neg (by decide), z1, if_neg (by decide), z2, if_neg (by decide), z3, if_neg (by decide), z4, if_neg (by decide), y0, if_neg (by decide), y1, if_neg (by decide), y2, if_neg (by decide), y3, if_neg (by decide), y4, if_neg (by decide), if_pos y5]; done)
        | (have z0 := bI_0 h6
           have z1 := bI_0 h19
           have z2 := bI_0 h32
           have z3 := bI_0 h45
           have z4 := bI_0 h58
           have y0 := bI_0 h80
           have y1 := bI_0 h93
           have y2 := bI_0 h107
           have y3 := bI_0 h121
           have y4 := bI_0 h135
           have y5 := bI_0 h149
           rw [wName, z0, if_neg (by decide), z1, if_neg (by decide), z2, if_neg (by decide), z3, if_neg (by decide), z4, if_neg (by decide), y0, if_neg (by decide), y1, if_neg (by decide), y2, if_neg (by decide), y3, if_neg (by decide), y4, if_neg (by decide), y5, if_neg (by decide)]; done)
  · skip
    refine r_iconst (v := 0) X dX13_nameHere_9 (by decide) ?_
    refine r_goto (tgt := 66) X dX13_nameHere_10 (by decide) ?_
    refine r_istore_n X dX13_nameHere_66 rfl (by decide) rfl ?_
    refine r_iload_n X dX13_nameHere_67 rfl rfl ?_
    refine r_iconst (v := -1) X dX13_nameHere_68 (by decide) ?_
    refine r_icmp_eq (tgt := 74) X dX13_nameHere_69 (by decide) (fun h69 => ?_) (fun h69 => ?_)
    · exact absurd h69 (by decide)
    refine r_iload_n X dX13_nameHere_72 rfl rfl ?_
    refine r_ireturn X dX13_nameHere_73 rfl (by first | omega | decide | (simp only [rmL, rmA]; omega)) (by first | omega | decide | (simp only [rmL, rmA]; omega)) ?_
    refine ⟨?_, rfl⟩
    first
      | (have z0 := bI_1 h6
         rw [wName, if_pos z0]; done)
      | (have z0 := bI_0 h6
         have z1 := bI_1 h19
         rw [wName, z0, if_neg (by decide), if_pos z1]; done)
      | (have z0 := bI_0 h6
         have z1 := bI_0 h19
         have z2 := bI_1 h32
         rw [wName, z0, if_neg (by decide), z1, if_neg (by decide), if_pos z2]; done)
      | (have z0 := bI_0 h6
         have z1 := bI_0 h19
         have z2 := bI_0 h32
         have z3 := bI_1 h45
         rw [wName, z0, if_neg (by decide), z1, if_neg (by decide), z2, if_neg (by decide), if_pos z3]; done)
      | (have z0 := bI_0 h6
         have z1 := bI_0 h19
         have z2 := bI_0 h32
         have z3 := bI_0 h45
         have z4 := bI_1 h58
         rw [wName, z0, if_neg (by decide), z1, if_neg (by decide), z2, if_neg (by decide), z3, if_neg (by decide), if_pos z4]; done)
      | (have z0 := bI_0 h6
         have z1 := bI_0 h19
         have z2 := bI_0 h32
         have z3 := bI_0 h45
         have z4 := bI_0 h58
         have y0 := bI_1 h80
         rw [wName, z0, if_neg (by decide), z1, if_neg (by decide), z2, if_neg (by decide), z3, if_neg (by decide), z4, if_neg (by decide), if_pos y0]; done)
      | (have z0 := bI_0 h6
         have z1 := bI_0 h19
         have z2 := bI_0 h32
         have z3 := bI_0 h45
         have z4 := bI_0 h58
         have y0 := bI_0 h80
         have y1 := bI_1 h93
         rw [wName, z0, if_neg (by decide), z1, if_neg (by decide), z2, if_neg (by decide), z3, if_neg (by decide), z4, if_neg (by decide), y0, if_neg (by decide), if_pos y1]; done)
      | (have z0 := bI_0 h6
         have z1 := bI_0 h19
         have z2 := bI_0 h32
         have z3 := bI_0 h45
         have z4 := bI_0 h58
         have y0 := bI_0 h80
         have y1 := bI_0 h93
         have y2 := bI_1 h107
         rw [wName, z0, if_neg (by decide), z1, if_neg (by decide), z2, if_neg (by decide), z3, if_neg (by decide), z4, if_neg (by decide), y0, if_neg (by decide), y1, if_neg (by decide), if_pos y2]; done)
      | (have z0 := bI_0 h6
         have z1 := bI_0 h19
         have z2 := bI_0 h32
         have z3 := bI_0 h45
         have z4 := bI_0 h58
         have y0 := bI_0 h80
         have y1 := bI_0 h93
         have y2 := bI_0 h107
         have y3 := bI_1 h121
         rw [wName, z0, if_neg (by decide), z1, if_neg (by decide), z2, if_neg (by decide), z3, if_neg (by decide), z4, if_neg (by decide), y0, if_neg (by decide), y1, if_neg (by decide), y2, if_neg (by decide), if_pos y3]; done)
      | (have z0 := bI_0 h6
         have z1 := bI_0 h19
         have z2 := bI_0 h32
         have z3 := bI_0 h45
         have z4 := bI_0 h58
         have y0 := bI_0 h80
         have y1 := bI_0 h93
         have y2 := bI_0 h107
         have y3 := bI_0 h121
         have y4 := bI_1 h135
         rw [wName, z0, if_neg (by decide), z1, if_neg (by decide), z2, if_neg (by decide), z3, if_neg (by decide), z4, if_neg (by decide), y0, if_neg (by decide), y1, if_neg (by decide), y2, if_neg (by decide), y3, if_neg (by decide), if_pos y4]; done)
      | (have z0 := bI_0 h6
         have z1 := bI_0 h19
         have z2 := bI_0 h32
         have z3 := bI_0 h45
         have z4 := bI_0 h58
         have y0 := bI_0 h80
         have y1 := bI_0 h93
         have y2 := bI_0 h107
         have y3 := bI_0 h121
         have y4 := bI_0 h135
         have y5 := bI_1 h149
         rw [wName, z0, if_neg (by decide), z1, if_neg (by decide), z2, if_neg (by decide), z3, if_neg (by decide), z4, if_neg (by decide), y0, if_neg (by decide), y1, if_neg (by decide), y2, if_neg (by decide), y3, if_neg (by decide), y4, if_neg (by decide), if_pos y5]; done)
      | (have z0 := bI_0 h6
         have z1 := bI_0 h19
         have z2 := bI_0 h32
         have z3 := bI_0 h45
         have z4 := bI_0 h58
         have y0 := bI_0 h80
         have y1 := bI_0 h93
         have y2 := bI_0 h107
         have y3 := bI_0 h121
         have y4 := bI_0 h135
         have y5 := bI_0 h149
         rw [wName, z0, if_neg (by decide), z1, if_neg (by decide), z2, if_neg (by decide), z3, if_neg (by decide), z4, if_neg (by decide), y0, if_neg (by decide), y1, if_neg (by decide), y2, if_neg (by decide), y3, if_neg (by decide), y4, if_neg (by decide), y5, if_neg (by decide)]; done)
abbrev MJ : Type := Mem × (Nat → Nat → Int64)
def mEn (I : Mem) (g : Nat) : Nat := (I g 24).toNatClampNeg
def mAt (I : Mem) (g : Nat) : Nat := (I g 25).toNatClampNeg
/-- the reference stands at a token -/
abbrev MkOK (I : Mem) (g : Nat) : Prop := I g 24 = nI (mEn I g) ∧ mEn I g ≤ 400 ∧ I g 25 = nI (mAt I g) ∧ mAt I g ≤ mEn I g ∧ ∀ k, k < 400 → ByOK (I (g + 20) k)
def nxt (K : MJ) (g : Nat) : MJ := (mNxI K.1 g (mEn K.1 g) (mAt K.1 g), mNxJ K.1 K.2 g (mEn K.1 g) (mAt K.1 g))
theorem mNx_le (B : Nat → Int32) {e p : Nat} (h : p ≤ e) : mNx B e p ≤ e := by
  unfold mNx
  split
  · exact tkAt_le B h
  · exact tkNx_le B h
theorem nxt_o {K : MJ} {g b k : Nat} (h : b ≠ g ∨ k < 25 ∨ 29 < k) : (nxt K g).1 b k = K.1 b k := setN_o h
theorem MkOK_nxt {K : MJ} {g : Nat} (h : MkOK K.1 g) : MkOK (nxt K g).1 g := by
  obtain ⟨h1, h2, h3, h4, h5⟩ := h
  have e1 : (nxt K g).1 g 24 = K.1 g 24 := nxt_o (by omega)
  have e2 : mEn (nxt K g).1 g = mEn K.1 g := by rw [mEn, mEn, e1]
  have e3 : (nxt K g).1 g 25 = nI (mNx (K.1 (g + 20)) (mEn K.1 g) (mAt K.1 g)) := (setN_g _ _ _ _ _ _ _).1
  have e4 := mNx_le (K.1 (g + 20)) h4
  have e5 : mAt (nxt K g).1 g = mNx (K.1 (g + 20)) (mEn K.1 g) (mAt K.1 g) := by rw [mAt, e3]; exact nI_clamp (by omega)
  refine ⟨by rw [e2, e1]; exact h1, by rw [e2]; exact h2, by rw [e5]; exact e3, by rw [e2, e5]; exact e4, fun k hk => ?_⟩
  rw [nxt_o (by omega)]
  exact h5 k hk
theorem MkOK.keep {I I' : Mem} {g : Nat} (h : MkOK I g) (h1 : I' g 24 = I g 24) (h2 : I' g 25 = I g 25) (h3 : ∀ k, I' (g + 20) k = I (g + 20) k) : MkOK I' g := by
  obtain ⟨a1, a2, a3, a4, a5⟩ := h
  have e1 : mEn I' g = mEn I g := by rw [mEn, mEn, h1]
  have e2 : mAt I' g = mAt I g := by rw [mAt, mAt, h2]
  exact ⟨by rw [e1, h1]; exact a1, by rw [e1]; exact a2, by rw [e2, h2]; exact a3, by rw [e1, e2]; exact a4, fun k hk => by rw [h3]; exact a5 k hk⟩
theorem c_nxt {E : Ev} (GE : Glob E) (S : Nat → Option (Nat × Nat)) (K : MJ) (V : Nat → Nat → Option Nat) (N g : Nat) (hs0 : S g = some (12, 0)) (hR : MrSh S V g) (hK : MkOK K.1 g) : Ct E yX13_next cX13_next 3 none (rmL 1) [.ref g] (S, K.1, V, K.2, N) (fun v w' => v = none ∧ w' = (S, (nxt K g).1, V, (nxt K g).2, N)) :=
  c_mNext GE S K.1 V K.2 N g _ _ hs0 hR hK.1 hK.2.1 hK.2.2.1 hK.2.2.2.1 hK.2.2.2.2
def oc (b : Bool) (v : Option Value) (x : Nat) : Outcome := if b = true then .returned v else .threw x
theorem oc_t {b : Bool} {v : Option Value} {x y : Nat} (h : Outcome.threw x = oc b v y) : b = false ∧ x = y := by
  cases b
  · exact ⟨rfl, Outcome.threw.inj h⟩
  · cases h
theorem oc_r {b : Bool} {u v : Option Value} {y : Nat} (h : Outcome.returned u = oc b v y) : b = true ∧ u = v := by
  cases b
  · cases h
  · exact ⟨rfl, Outcome.returned.inj h⟩
abbrev PX (S : Nat → Option (Nat × Nat)) (V : Nat → Nat → Option Nat) (N g : Nat) (R : Bool × MJ) (v : Option Value) : Outcome → Wd → Prop := fun o w' => o = oc R.1 v (g + 19) ∧ w' = (S, R.2.1, V, R.2.2, N)
theorem q_callX {E : Ev} {M : Mc} {own : String} {cc : ByteArray} {nL : Nat} {rm : Room} {ret : Option FieldType} {nm : String} {cells slots : Nat} {Q : State → Prop} {pc : Nat} {L : List (Option Value)} {st st0 : List Value} {w : Wd} {post : Outcome → Wd → Prop} {y : MethodName} {bytes : ByteArray} {maxL n idx : Nat} {rt : Option FieldType} {rm' : Room} {As : List Value} {b : Nat} {ci nb : Nat} {r : vw_C} (X : Cx E M own cc nL rm ret nm) (hd : decode cc pc = .ok (.invokevirtual idx, 3)) (hml : Cond.methodLink own idx y ∈ lw_tbl) (hin : Cond.instanceMethod y ∈ lw_tbl) (hsl : Cond.selects y.cls y y ∈ lw_tbl) (hw : CWd y bytes maxL rt n) (hct : CtX E y bytes maxL rt rm' (.ref b :: As) w post) (hst0 : st0 = As.reverse ++ .ref b :: st) (hs : w.1 b = some (ci, nb)) (hr : kCl[ci]? = some r) (hcl : r.1 = y.cls) (hn : As.length = n) (hst : (st.map fun v => v.category).sum ≤ 8) (hrm : rm'.frames + 1 ≤ rm.frames ∧ 19 + maxL + rm'.locals ≤ rm.locals) (hf : cells + rm'.cells ≤ rm.cells ∧ slots + rm'.slots ≤ rm.slots)
    (kr : ∀ v w', post (.returned v) w' → G E M (cells + rm'.cells) (slots + rm'.slots) Q (pc + 3) L (v.toList ++ st) w') (kt : ∀ x w', post (.threw x) w' → GT E M (cells + rm'.cells) (slots + rm'.slots) Q pc L st x w') : G E M cells slots Q pc L st0 w := by
  rw [hst0]
  exact t_callV X hd hml hin hsl hw hct hs hr hcl hn hst hrm hf kr kt
def stp (K : MJ) (g : Nat) (x : Int32) : MJ := (mStp K.1 g x, K.2)
def ndW (K : MJ) (g : Nat) (bs : List Int32) : Bool × MJ := if mIsW K.1 K.2 g bs = true then (true, nxt K g) else (false, stp K g 1)
set_option maxHeartbeats 2000000 in
set_option maxRecDepth 20000 in
/-- SledHouseModel.needWord -/
theorem c_ndW {E : Ev} (GE : Glob E) (S : Nat → Option (Nat × Nat)) (K : MJ) (V : Nat → Nat → Option Nat) (N g u : Nat) (bs : List Int32) (hZ : Strs E) (hs0 : S g = some (12, 0)) (hR : MrSh S V g) (hK : MkOK K.1 g) (hu : StrAt E u bs) : CtX E yX13_needWord cX13_needWord 2 none (rmL 6) [.ref g, .ref u] (S, K.1, V, K.2, N) (PX S V N g (ndW K g bs) none) := by
  refine CtX.start GE (by decide) rfl (Nat.le_of_ble_eq_true rfl) (fun M X hx0 => ?_)
  have X : Cx E M RX13 cX13_needWord 2 (rmL 6) none "needWord" := X
  refine r_loc (L' := [some (.ref g), some (.ref u)]) rfl ?_
  refine r_aload_n X dX13_needWord_0 rfl rfl ?_
  refine r_aload_n X dX13_needWord_1 rfl rfl ?_
  refine q_callV X dX13_needWord_2 mX13_182 cwX13_isWord (c_mIsW GE S _ V _ N g u bs hZ hs0 hu) rfl (by assumption) rfl rfl rfl (Nat.le_of_ble_eq_true rfl) ⟨Nat.le_of_ble_eq_true rfl, Nat.le_of_ble_eq_true rfl⟩ ⟨(by first | omega | decide | (simp only [rmL, rmA]; omega)), (by first | omega | decide | (simp only [rmL, rmA]; omega))⟩ ?_
  rintro _ _ ⟨rfl, rfl⟩
  refine r_if_ne (tgt := 14) X dX13_needWord_5 (by decide) (fun h5 => ?_) (fun h5 => ?_)
  · skip
    refine r_aload_n X dX13_needWord_14 rfl rfl ?_
    refine q_callV X dX13_needWord_15 mX13_189 cwX13_next (c_nxt GE S K V N g hs0 hR hK) rfl (by assumption) rfl rfl rfl (Nat.le_of_ble_eq_true rfl) ⟨Nat.le_of_ble_eq_true rfl, Nat.le_of_ble_eq_true rfl⟩ ⟨(by first | omega | decide | (simp only [rmL, rmA]; omega)), (by first | omega | decide | (simp only [rmL, rmA]; omega))⟩ ?_
    rintro _ _ ⟨rfl, rfl⟩
    refine G.toX ?_
    refine r_return X dX13_needWord_18 (by first | omega | decide | (simp only [rmL, rmA]; omega)) (by first | omega | decide | (simp only [rmL, rmA]; omega)) ?_
    have z1 := bI_1 h5
    exact ⟨by rw [ndW, z1]; rfl, by rw [ndW, z1]; rfl⟩
  · skip
    refine r_aload_n X dX13_needWord_8 rfl rfl ?_
    refine r_iconst (v := 1) X dX13_needWord_9 (by decide) ?_
    refine q_callV X dX13_needWord_10 mX13_186 cwX13_stop (c_mStp GE S _ V _ N g _ hs0 hR) rfl (by assumption) rfl rfl rfl (Nat.le_of_ble_eq_true rfl) ⟨Nat.le_of_ble_eq_true rfl, Nat.le_of_ble_eq_true rfl⟩ ⟨(by first | omega | decide | (simp only [rmL, rmA]; omega)), (by first | omega | decide | (simp only [rmL, rmA]; omega))⟩ ?_
    rintro _ _ ⟨rfl, rfl⟩
    refine t_athrow X dX13_needWord_13 hx0 (by first | omega | decide | (simp only [rmL, rmA]; omega)) (by first | omega | decide | (simp only [rmL, rmA]; omega)) ?_
    have z1 := bI_0 h5
    exact ⟨by rw [ndW, z1]; rfl, by rw [ndW, z1]; rfl⟩
def ndN (K : MJ) (g : Nat) : Bool × MJ := if K.1 g 26 = 3 then (true, nxt K g) else (false, stp K g 1)
set_option maxHeartbeats 2000000 in
set_option maxRecDepth 20000 in
/-- SledHouseModel.needNumber -/
theorem c_ndN {E : Ev} (GE : Glob E) (S : Nat → Option (Nat × Nat)) (K : MJ) (V : Nat → Nat → Option Nat) (N g : Nat) (hs0 : S g = some (12, 0)) (hR : MrSh S V g) (hK : MkOK K.1 g) : CtX E yX13_needNumber cX13_needNumber 2 (some .int) (rmL 6) [.ref g] (S, K.1, V, K.2, N) (PX S V N g (ndN K g) (some (.int (K.1 g 29)))) := by
  refine CtX.start GE (by decide) rfl (Nat.le_of_ble_eq_true rfl) (fun M X hx0 => ?_)
  have X : Cx E M RX13 cX13_needNumber 2 (rmL 6) (some .int) "needNumber" := X
  refine r_loc (L' := [some (.ref g), none]) rfl ?_
  refine r_aload_n X dX13_needNumber_0 rfl rfl ?_
  refine r_getI X dX13_needNumber_1 fX13_159 (by assumption) (by first | assumption | rfl) ?_
  refine r_iconst (v := 3) X dX13_needNumber_4 (by decide) ?_
  refine r_icmp_eq (tgt := 14) X dX13_needNumber_5 (by decide) (fun h5 => ?_) (fun h5 => ?_)
  · skip
    refine r_aload_n X dX13_needNumber_14 rfl rfl ?_
    refine r_getI X dX13_needNumber_15 fX13_175 (by assumption) (by first | assumption | rfl) ?_
    refine r_istore_n X dX13_needNumber_18 rfl (by decide) rfl ?_
    refine r_aload_n X dX13_needNumber_19 rfl rfl ?_
    refine q_callV X dX13_needNumber_20 mX13_189 cwX13_next (c_nxt GE S K V N g hs0 hR hK) rfl (by assumption) rfl rfl rfl (Nat.le_of_ble_eq_true rfl) ⟨Nat.le_of_ble_eq_true rfl, Nat.le_of_ble_eq_true rfl⟩ ⟨(by first | omega | decide | (simp only [rmL, rmA]; omega)), (by first | omega | decide | (simp only [rmL, rmA]; omega))⟩ ?_
    rintro _ _ ⟨rfl, rfl⟩
    refine r_iload_n X dX13_needNumber_23 rfl rfl ?_
    refine G.toX ?_
    refine r_ireturn X dX13_needNumber_24 rfl (by first | omega | decide | (simp only [rmL, rmA]; omega)) (by first | omega | decide | (simp only [rmL, rmA]; omega)) ?_
    have z1 : K.1 g 26 = 3 := h5
    exact ⟨by rw [ndN, if_pos z1]; rfl, by rw [ndN, if_pos z1]⟩
  · skip
    refine r_aload_n X dX13_needNumber_8 rfl rfl ?_
    refine r_iconst (v := 1) X dX13_needNumber_9 (by decide) ?_
    refine q_callV X dX13_needNumber_10 mX13_186 cwX13_stop (c_mStp GE S _ V _ N g _ hs0 hR) rfl (by assumption) rfl rfl rfl (Nat.le_of_ble_eq_true rfl) ⟨Nat.le_of_ble_eq_true rfl, Nat.le_of_ble_eq_true rfl⟩ ⟨(by first | omega | decide | (simp only [rmL, rmA]; omega)), (by first | omega | decide | (simp only [rmL, rmA]; omega))⟩ ?_
    rintro _ _ ⟨rfl, rfl⟩
    refine t_athrow X dX13_needNumber_13 hx0 (by first | omega | decide | (simp only [rmL, rmA]; omega)) (by first | omega | decide | (simp only [rmL, rmA]; omega)) ?_
    have z1 : ¬ K.1 g 26 = 3 := h5
    exact ⟨by rw [ndN, if_neg z1]; rfl, by rw [ndN, if_neg z1]; rfl⟩
def strt (I : Mem) (g : Nat) (x : Int32) : Mem := up2 (up2 (up2 (up2 I g 24 x) g 23 0) g 25 0) g 3 0
set_option maxHeartbeats 2000000 in
set_option maxRecDepth 20000 in
/-- SledHouseModel.start -/
theorem c_strt {E : Ev} (GE : Glob E) (S : Nat → Option (Nat × Nat)) (K : MJ) (V : Nat → Nat → Option Nat) (N g n : Nat) (hs0 : S g = some (12, 0)) (hR : MrSh S V g) (hn : n ≤ 400) (hB : ∀ k, k < 400 → ByOK (K.1 (g + 20) k)) : Ct E yX13_start cX13_start 2 none (rmL 2) [.ref g, .int (nI n)] (S, K.1, V, K.2, N) (fun v w' => v = none ∧ w' = (S, (nxt (strt K.1 g (nI n), K.2) g).1, V, (nxt (strt K.1 g (nI n), K.2) g).2, N)) := by
  refine Ct.start GE (by decide) rfl (Nat.le_of_ble_eq_true rfl) (fun M X => ?_)
  have X : Cx E M RX13 cX13_start 2 (rmL 2) none "start" := X
  refine r_loc (L' := [some (.ref g), some (.int (nI n))]) rfl ?_
  have hK : MkOK (strt K.1 g (nI n), K.2).1 g := by
    have e1 : strt K.1 g (nI n) g 24 = nI n := by rw [strt, up2_k (by decide), up2_k (by decide), up2_k (by decide), up2_same]
    have e2 : strt K.1 g (nI n) g 25 = 0 := by rw [strt, up2_k (by decide), up2_same]
    have f1 : mEn (strt K.1 g (nI n)) g = n := by rw [mEn, e1]; exact nI_clamp (by omega)
    have f2 : mAt (strt K.1 g (nI n)) g = 0 := by rw [mAt, e2]; rfl
    refine ⟨by rw [f1]; exact e1, by rw [f1]; exact hn, by rw [f2]; exact e2, by rw [f1, f2]; omega, fun k hk => ?_⟩
    show ByOK (strt K.1 g (nI n) (g + 20) k)
    rw [strt, up2_a (by omega), up2_a (by omega), up2_a (by omega), up2_a (by omega)]
    exact hB k hk
  refine r_aload_n X dX13_start_0 rfl rfl ?_
  refine r_iload_n X dX13_start_1 rfl rfl ?_
  refine r_putI X dX13_start_2 fX13_139 wX13_139 (by assumption) rfl rfl ?_
  refine r_aload_n X dX13_start_5 rfl rfl ?_
  refine r_iconst (v := 0) X dX13_start_6 (by decide) ?_
  refine r_putI X dX13_start_7 fX13_221 wX13_221 (by assumption) rfl rfl ?_
  refine r_aload_n X dX13_start_10 rfl rfl ?_
  refine r_iconst (v := 0) X dX13_start_11 (by decide) ?_
  refine r_putI X dX13_start_12 fX13_153 wX13_153 (by assumption) rfl rfl ?_
  refine r_aload_n X dX13_start_15 rfl rfl ?_
  refine r_iconst (v := 0) X dX13_start_16 (by decide) ?_
  refine r_putI X dX13_start_17 fX13_224 wX13_224 (by assumption) rfl rfl ?_
  refine r_aload_n X dX13_start_20 rfl rfl ?_
  refine q_callV X dX13_start_21 mX13_189 cwX13_next (c_nxt GE S (strt K.1 g (nI n), K.2) V N g hs0 hR hK) rfl (by assumption) rfl rfl rfl (Nat.le_of_ble_eq_true rfl) ⟨Nat.le_of_ble_eq_true rfl, Nat.le_of_ble_eq_true rfl⟩ ⟨(by first | omega | decide | (simp only [rmL, rmA]; omega)), (by first | omega | decide | (simp only [rmL, rmA]; omega))⟩ ?_
  rintro _ _ ⟨rfl, rfl⟩
  refine r_return X dX13_start_24 (by first | omega | decide | (simp only [rmL, rmA]; omega)) (by first | omega | decide | (simp only [rmL, rmA]; omega)) ?_
  exact ⟨rfl, rfl⟩
