/-! ===== the plan's parser ===== -/
def wName (W : List Int32 → Bool) : Int32 := if W kw_run = true then 0 else if W kw_rest = true then 1 else if W kw_weak = true then 2 else if W kw_mean = true then 3 else if W kw_cold = true then 4 else if W kw_meals = true then 5 else if W kw_dogs = true then 6 else if W kw_left = true then 7 else if W kw_hour = true then 8 else if W kw_post = true then 9 else if W kw_load = true then 10 else -1
set_option maxHeartbeats 2000000 in
set_option maxRecDepth 20000 in
/-- SledHouse$Plan.nameOf -/
theorem c_nameOf {E : Ev} (GE : Glob E) (S : Nat → Option (Nat × Nat)) (I : Nat → Nat → Int32) (V : Nat → Nat → Option Nat) (J : Nat → Nat → Int64) (N : Nat) (a : Nat) (hZ : Strs E) (hT : TapeSh S V a) (hK : TkOK I a) : Ct E yX4_nameOf cX4_nameOf 1 (some .int) (rmL 5) [.ref a] (S, I, V, J, N) (fun v w' => v = some (.int (wName (isW I a))) ∧ w' = (S, I, V, J, N)) := by
  refine Ct.start GE (by decide) rfl (Nat.le_of_ble_eq_true rfl) (fun M X => ?_)
  have X : Cx E M RX4 cX4_nameOf 1 (rmL 5) (some .int) "nameOf" := X
  refine r_loc (L' := [some (.ref a)]) rfl ?_
  have ts0 := hT.1
  refine r_aload_n X dX4_nameOf_0 rfl rfl ?_
  refine r_ldcS X dX4_nameOf_1 (sX4_91 hZ) (fun u1 hu1 => ?_)
  refine q_callV X dX4_nameOf_3 mX4_57 cwX7_isWord (c_isW GE S I V J N a _ kw_run hZ hT hK (by assumption)) rfl (by assumption) rfl rfl rfl (Nat.le_of_ble_eq_true rfl) ⟨Nat.le_of_ble_eq_true rfl, Nat.le_of_ble_eq_true rfl⟩ ⟨(by first | omega | decide | (simp only [rmL, rmA]; omega)), (by first | omega | decide | (simp only [rmL, rmA]; omega))⟩ ?_
  rintro _ _ ⟨rfl, rfl⟩
  refine r_if_eq (tgt := 11) X dX4_nameOf_6 (by decide) (fun h6 => ?_) (fun h6 => ?_)
  · skip
    refine r_aload_n X dX4_nameOf_11 rfl rfl ?_
    refine r_ldcS X dX4_nameOf_12 (sX4_95 hZ) (fun u12 hu12 => ?_)
    refine q_callV X dX4_nameOf_14 mX4_57 cwX7_isWord (c_isW GE S I V J N a _ kw_rest hZ hT hK (by assumption)) rfl (by assumption) rfl rfl rfl (Nat.le_of_ble_eq_true rfl) ⟨Nat.le_of_ble_eq_true rfl, Nat.le_of_ble_eq_true rfl⟩ ⟨(by first | omega | decide | (simp only [rmL, rmA]; omega)), (by first | omega | decide | (simp only [rmL, rmA]; omega))⟩ ?_
    rintro _ _ ⟨rfl, rfl⟩
    refine r_if_eq (tgt := 22) X dX4_nameOf_17 (by decide) (fun h17 => ?_) (fun h17 => ?_)
    · skip
      refine r_aload_n X dX4_nameOf_22 rfl rfl ?_
      refine r_ldcS X dX4_nameOf_23 (sX4_97 hZ) (fun u23 hu23 => ?_)
      refine q_callV X dX4_nameOf_25 mX4_57 cwX7_isWord (c_isW GE S I V J N a _ kw_weak hZ hT hK (by assumption)) rfl (by assumption) rfl rfl rfl (Nat.le_of_ble_eq_true rfl) ⟨Nat.le_of_ble_eq_true rfl, Nat.le_of_ble_eq_true rfl⟩ ⟨(by first | omega | decide | (simp only [rmL, rmA]; omega)), (by first | omega | decide | (simp only [rmL, rmA]; omega))⟩ ?_
      rintro _ _ ⟨rfl, rfl⟩
      refine r_if_eq (tgt := 33) X dX4_nameOf_28 (by decide) (fun h28 => ?_) (fun h28 => ?_)
      · skip
        refine r_aload_n X dX4_nameOf_33 rfl rfl ?_
        refine r_ldcS X dX4_nameOf_34 (sX4_99 hZ) (fun u34 hu34 => ?_)
        refine q_callV X dX4_nameOf_36 mX4_57 cwX7_isWord (c_isW GE S I V J N a _ kw_mean hZ hT hK (by assumption)) rfl (by assumption) rfl rfl rfl (Nat.le_of_ble_eq_true rfl) ⟨Nat.le_of_ble_eq_true rfl, Nat.le_of_ble_eq_true rfl⟩ ⟨(by first | omega | decide | (simp only [rmL, rmA]; omega)), (by first | omega | decide | (simp only [rmL, rmA]; omega))⟩ ?_
        rintro _ _ ⟨rfl, rfl⟩
        refine r_if_eq (tgt := 44) X dX4_nameOf_39 (by decide) (fun h39 => ?_) (fun h39 => ?_)
        · skip
          refine r_aload_n X dX4_nameOf_44 rfl rfl ?_
          refine r_ldcS X dX4_nameOf_45 (sX4_101 hZ) (fun u45 hu45 => ?_)
          refine q_callV X dX4_nameOf_47 mX4_57 cwX7_isWord (c_isW GE S I V J N a _ kw_cold hZ hT hK (by assumption)) rfl (by assumption) rfl rfl rfl (Nat.le_of_ble_eq_true rfl) ⟨Nat.le_of_ble_eq_true rfl, Nat.le_of_ble_eq_true rfl⟩ ⟨(by first | omega | decide | (simp only [rmL, rmA]; omega)), (by first | omega | decide | (simp only [rmL, rmA]; omega))⟩ ?_
          rintro _ _ ⟨rfl, rfl⟩
          refine r_if_eq (tgt := 55) X dX4_nameOf_50 (by decide) (fun h50 => ?_) (fun h50 => ?_)
          · skip
            refine r_aload_n X dX4_nameOf_55 rfl rfl ?_
            refine r_ldcS X dX4_nameOf_56 (sX4_103 hZ) (fun u56 hu56 => ?_)
            refine q_callV X dX4_nameOf_58 mX4_57 cwX7_isWord (c_isW GE S I V J N a _ kw_meals hZ hT hK (by assumption)) rfl (by assumption) rfl rfl rfl (Nat.le_of_ble_eq_true rfl) ⟨Nat.le_of_ble_eq_true rfl, Nat.le_of_ble_eq_true rfl⟩ ⟨(by first | omega | decide | (simp only [rmL, rmA]; omega)), (by first | omega | decide | (simp only [rmL, rmA]; omega))⟩ ?_
            rintro _ _ ⟨rfl, rfl⟩
            refine r_if_eq (tgt := 66) X dX4_nameOf_61 (by decide) (fun h61 => ?_) (fun h61 => ?_)
            · skip
              refine r_aload_n X dX4_nameOf_66 rfl rfl ?_
              refine r_ldcS X dX4_nameOf_67 (sX4_105 hZ) (fun u67 hu67 => ?_)
              refine q_callV X dX4_nameOf_69 mX4_57 cwX7_isWord (c_isW GE S I V J N a _ kw_dogs hZ hT hK (by assumption)) rfl (by assumption) rfl rfl rfl (Nat.le_of_ble_eq_true rfl) ⟨Nat.le_of_ble_eq_true rfl, Nat.le_of_ble_eq_true rfl⟩ ⟨(by first | omega | decide | (simp only [rmL, rmA]; omega)), (by first | omega | decide | (simp only [rmL, rmA]; omega))⟩ ?_
              rintro _ _ ⟨rfl, rfl⟩
              refine r_if_eq (tgt := 78) X dX4_nameOf_72 (by decide) (fun h72 => ?_) (fun h72 => ?_)
              · skip
                refine r_aload_n X dX4_nameOf_78 rfl rfl ?_
                refine r_ldcS X dX4_nameOf_79 (sX4_107 hZ) (fun u79 hu79 => ?_)
                refine q_callV X dX4_nameOf_81 mX4_57 cwX7_isWord (c_isW GE S I V J N a _ kw_left hZ hT hK (by assumption)) rfl (by assumption) rfl rfl rfl (Nat.le_of_ble_eq_true rfl) ⟨Nat.le_of_ble_eq_true rfl, Nat.le_of_ble_eq_true rfl⟩ ⟨(by first | omega | decide | (simp only [rmL, rmA]; omega)), (by first | omega | decide | (simp only [rmL, rmA]; omega))⟩ ?_
                rintro _ _ ⟨rfl, rfl⟩
                refine r_if_eq (tgt := 90) X dX4_nameOf_84 (by decide) (fun h84 => ?_) (fun h84 => ?_)
                · skip
                  refine r_aload_n X dX4_nameOf_90 rfl rfl ?_
                  refine r_ldcS X dX4_nameOf_91 (sX4_109 hZ) (fun u91 hu91 => ?_)
                  refine q_callV X dX4_nameOf_93 mX4_57 cwX7_isWord (c_isW GE S I V J N a _ kw_hour hZ hT hK (by assumption)) rfl (by assumption) rfl rfl rfl (Nat.le_of_ble_eq_true rfl) ⟨Nat.le_of_ble_eq_true rfl, Nat.le_of_ble_eq_true rfl⟩ ⟨(by first | omega | decide | (simp only [rmL, rmA]; omega)), (by first | omega | decide | (simp only [rmL, rmA]; omega))⟩ ?_
                  rintro _ _ ⟨rfl, rfl⟩
                  refine r_if_eq (tgt := 102) X dX4_nameOf_96 (by decide) (fun h96 => ?_) (fun h96 => ?_)
                  · skip
                    refine r_aload_n X dX4_nameOf_102 rfl rfl ?_
                    refine r_ldcS X dX4_nameOf_103 (sX4_111 hZ) (fun u103 hu103 => ?_)
                    refine q_callV X dX4_nameOf_105 mX4_57 cwX7_isWord (c_isW GE S I V J N a _ kw_post hZ hT hK (by assumption)) rfl (by assumption) rfl rfl rfl (Nat.le_of_ble_eq_true rfl) ⟨Nat.le_of_ble_eq_true rfl, Nat.le_of_ble_eq_true rfl⟩ ⟨(by first | omega | decide | (simp only [rmL, rmA]; omega)), (by first | omega | decide | (simp only [rmL, rmA]; omega))⟩ ?_
                    rintro _ _ ⟨rfl, rfl⟩
                    refine r_if_eq (tgt := 114) X dX4_nameOf_108 (by decide) (fun h108 => ?_) (fun h108 => ?_)
                    · skip
                      refine r_aload_n X dX4_nameOf_114 rfl rfl ?_
                      refine r_ldcS X dX4_nameOf_115 (sX4_113 hZ) (fun u115 hu115 => ?_)
                      refine q_callV X dX4_nameOf_117 mX4_57 cwX7_isWord (c_isW GE S I V J N a _ kw_load hZ hT hK (by assumption)) rfl (by assumption) rfl rfl rfl (Nat.le_of_ble_eq_true rfl) ⟨Nat.le_of_ble_eq_true rfl, Nat.le_of_ble_eq_true rfl⟩ ⟨(by first | omega | decide | (simp only [rmL, rmA]; omega)), (by first | omega | decide | (simp only [rmL, rmA]; omega))⟩ ?_
                      rintro _ _ ⟨rfl, rfl⟩
                      refine r_if_eq (tgt := 128) X dX4_nameOf_120 (by decide) (fun h120 => ?_) (fun h120 => ?_)
                      · skip
                        refine r_iconst (v := -1) X dX4_nameOf_128 (by decide) ?_
                        refine r_ireturn X dX4_nameOf_129 rfl (by first | omega | decide | (simp only [rmL, rmA]; omega)) (by first | omega | decide | (simp only [rmL, rmA]; omega)) ?_
                        refine ⟨?_, rfl⟩
                        simp only [wName]
                        first
                          | (rw [if_pos (bI_1 h6)]; done)
                          | (rw [if_neg (by rw [bI_0 h6]; decide), if_pos (bI_1 h17)]; done)
                          | (rw [if_neg (by rw [bI_0 h6]; decide), if_neg (by rw [bI_0 h17]; decide), if_pos (bI_1 h28)]; done)
                          | (rw [if_neg (by rw [bI_0 h6]; decide), if_neg (by rw [bI_0 h17]; decide), if_neg (by rw [bI_0 h28]; decide), if_pos (bI_1 h39)]; done)
                          | (rw [if_neg (by rw [bI_0 h6]; decide), if_neg (by rw [bI_0 h17]; decide), if_neg (by rw [bI_0 h28]; decide), if_neg (by rw [bI_0 h39]; decide), if_pos (bI_1 h50)]; done)
                          | (rw [if_neg (by rw [bI_0 h6]; decide), if_neg (by rw [bI_0 h17]; decide), if_neg (by rw [bI_0 h28]; decide), if_neg (by rw [bI_0 h39]; decide), if_neg (by rw [bI_0 h50]; decide), if_pos (bI_1 h61)]; done)
                          | (rw [if_neg (by rw [bI_0 h6]; decide), if_neg (by rw [bI_0 h17]; decide), if_neg (by rw [bI_0 h28]; decide), if_neg (by rw [bI_0 h39]; decide), if_neg (by rw [bI_0 h50]; decide), if_neg (by rw [bI_0 h61]; decide), if_pos (bI_1 h72)]; done)
                          | (rw [if_neg (by rw [bI_0 h6]; decide), if_neg (by rw [bI_0 h17]; decide), if_neg (by rw [bI_0 h28]; decide), if_neg (by rw [bI_0 h39]; decide), if_neg (by rw [bI_0 h50]; decide), if_neg (by rw [bI_0 h61]; decide), if_neg (by rw [bI_0 h72]; decide), if_pos (bI_1 h84)]; done)
                          | (rw [if_neg (by rw [bI_0 h6]; decide), if_neg (by rw [bI_0 h17]; decide), if_neg (by rw [bI_0 h28]; decide), if_neg (by rw [bI_0 h39]; decide), if_neg (by rw [bI_0 h50]; decide), if_neg (by rw [bI_0 h61]; decide), if_neg (by rw [bI_0 h72]; decide), if_neg (by rw [bI_0 h84]; decide), if_pos (bI_1 h96)]; done)
                          | (rw [if_neg (by rw [bI_0 h6]; decide), if_neg (by rw [bI_0 h17]; decide), if_neg (by rw [bI_0 h28]; decide), if_neg (by rw [bI_0 h39]; decide), if_neg (by rw [bI_0 h50]; decide), if_neg (by rw [bI_0 h61]; decide), if_neg (by rw [bI_0 h72]; decide), if_neg (by rw [bI_0 h84]; decide), if_neg (by rw [bI_0 h96]; decide), if_pos (bI_1 h108)]; done)
                          | (rw [if_neg (by rw [bI_0 h6]; decide), if_neg (by rw [bI_0 h17]; decide), if_neg (by rw [bI_0 h28]; decide), if_neg (by rw [bI_0 h39]; decide), if_neg (by rw [bI_0 h50]; decide), if_neg (by rw [bI_0 h61]; decide), if_neg (by rw [bI_0 h72]; decide), if_neg (by rw [bI_0 h84]; decide), if_neg (by rw [bI_0 h96]; decide), if_neg (by rw [bI_0 h108]; decide), if_pos (bI_1 h120)]; done)
                          | (rw [if_neg (by rw [bI_0 h6]; decide), if_neg (by rw [bI_0 h17]; decide), if_neg (by rw [bI_0 h28]; decide), if_neg (by rw [bI_0 h39]; decide), if_neg (by rw [bI_0 h50]; decide), if_neg (by rw [bI_0 h61]; decide), if_neg (by rw [bI_0 h72]; decide), if_neg (by rw [bI_0 h84]; decide), if_neg (by rw [bI_0 h96]; decide), if_neg (by rw [bI_0 h108]; decide), if_neg (by rw [bI_0 h120]; decide)]; done)
                      · skip
                        refine r_bipush (v := 10) X dX4_nameOf_123 (by decide) ?_
                        refine r_goto (tgt := 129) X dX4_nameOf_125 (by decide) ?_
                        refine r_ireturn X dX4_nameOf_129 rfl (by first | omega | decide | (simp only [rmL, rmA]; omega)) (by first | omega | decide | (simp only [rmL, rmA]; omega)) ?_
                        refine ⟨?_, rfl⟩
                        simp only [wName]
                        first
                          | (rw [if_pos (bI_1 h6)]; done)
                          | (rw [if_neg (by rw [bI_0 h6]; decide), if_pos (bI_1 h17)]; done)
                          | (rw [if_neg (by rw [bI_0 h6]; decide), if_neg (by rw [bI_0 h17]; decide), if_pos (bI_1 h28)]; done)
                          | (rw [if_neg (by rw [bI_0 h6]; decide), if_neg (by rw [bI_0 h17]; decide), if_neg (by rw [bI_0 h28]; decide), if_pos (bI_1 h39)]; done)
                          | (rw [if_neg (by rw [bI_0 h6]; decide), if_neg (by rw [bI_0 h17]; decide), if_neg (by rw [bI_0 h28]; decide), if_neg (by rw [bI_0 h39]; decide), if_pos (bI_1 h50)]; done)
                          | (rw [if_neg (by rw [bI_0 h6]; decide), if_neg (by rw [bI_0 h17]; decide), if_neg (by rw [bI_0 h28]; decide), if_neg (by rw [bI_0 h39]; decide), if_neg (by rw [bI_0 h50]; decide), if_pos (bI_1 h61)]; done)
                          | (rw [if_neg (by rw [bI_0 h6]; decide), if_neg (by rw [bI_0 h17]; decide), if_neg (by rw [bI_0 h28]; decide), if_neg (by rw [bI_0 h39]; decide), if_neg (by rw [bI_0 h50]; decide), if_neg (by rw [bI_0 h61]; decide), if_pos (bI_1 h72)]; done)
                          | (rw [if_neg (by rw [bI_0 h6]; decide), if_neg (by rw [bI_0 h17]; decide), if_neg (by rw [bI_0 h28]; decide), if_neg (by rw [bI_0 h39]; decide), if_neg (by rw [bI_0 h50]; decide), if_neg (by rw [bI_0 h61]; decide), if_neg (by rw [bI_0 h72]; decide), if_pos (bI_1 h84)]; done)
                          | (rw [if_neg (by rw [bI_0 h6]; decide), if_neg (by rw [bI_0 h17]; decide), if_neg (by rw [bI_0 h28]; decide), if_neg (by rw [bI_0 h39]; decide), if_neg (by rw [bI_0 h50]; decide), if_neg (by rw [bI_0 h61]; decide), if_neg (by rw [bI_0 h72]; decide), if_neg (by rw [bI_0 h84]; decide), if_pos (bI_1 h96)]; done)
                          | (rw [if_neg (by rw [bI_0 h6]; decide), if_neg (by rw [bI_0 h17]; decide), if_neg (by rw [bI_0 h28]; decide), if_neg (by rw [bI_0 h39]; decide), if_neg (by rw [bI_0 h50]; decide), if_neg (by rw [bI_0 h61]; decide), if_neg (by rw [bI_0 h72]; decide), if_neg (by rw [bI_0 h84]; decide), if_neg (by rw [bI_0 h96]; decide), if_pos (bI_1 h108)]; done)
                          | (rw [if_neg (by rw [bI_0 h6]; decide), if_neg (by rw [bI_0 h17]; decide), if_neg (by rw [bI_0 h28]; decide), if_neg (by rw [bI_0 h39]; decide), if_neg (by rw [bI_0 h50]; decide), if_neg (by rw [bI_0 h61]; decide), if_neg (by rw [bI_0 h72]; decide), if_neg (by rw [bI_0 h84]; decide), if_neg (by rw [bI_0 h96]; decide), if_neg (by rw [bI_0 h108]; decide), if_pos (bI_1 h120)]; done)
                          | (rw [if_neg (by rw [bI_0 h6]; decide), if_neg (by rw [bI_0 h17]; decide), if_neg (by rw [bI_0 h28]; decide), if_neg (by rw [bI_0 h39]; decide), if_neg (by rw [bI_0 h50]; decide), if_neg (by rw [bI_0 h61]; decide), if_neg (by rw [bI_0 h72]; decide), if_neg (by rw [bI_0 h84]; decide), if_neg (by rw [bI_0 h96]; decide), if_neg (by rw [bI_0 h108]; decide), if_neg (by rw [bI_0 h120]; decide)]; done)
                    · skip
                      refine r_bipush (v := 9) X dX4_nameOf_111 (by decide) ?_
                      refine r_ireturn X dX4_nameOf_113 rfl (by first | omega | decide | (simp only [rmL, rmA]; omega)) (by first | omega | decide | (simp only [rmL, rmA]; omega)) ?_
                      refine ⟨?_, rfl⟩
                      simp only [wName]
                      first
                        | (rw [if_pos (bI_1 h6)]; done)
                        | (rw [if_neg (by rw [bI_0 h6]; decide), if_pos (bI_1 h17)]; done)
                        | (rw [if_neg (by rw [bI_0 h6]; decide), if_neg (by rw [bI_0 h17]; decide), if_pos (bI_1 h28)]; done)
                        | (rw [if_neg (by rw [bI_0 h6]; decide), if_neg (by rw [bI_0 h17]; decide), if_neg (by rw [bI_0 h28]; decide), if_pos (bI_1 h39)]; done)
                        | (rw [if_neg (by rw [bI_0 h6]; decide), if_neg (by rw [bI_0 h17]; decide), if_neg (by rw [bI_0 h28]; decide), if_neg (by rw [bI_0 h39]; decide), if_pos (bI_1 h50)]; done)
                        | (rw [if_neg (by rw [bI_0 h6]; decide), if_neg (by rw [bI_0 h17]; decide), if_neg (by rw [bI_0 h28]; decide), if_neg (by rw [bI_0 h39]; decide), if_neg (by rw [bI_0 h50]; decide), if_pos (bI_1 h61)]; done)
                        | (rw [if_neg (by rw [bI_0 h6]; decide), if_neg (by rw [bI_0 h17]; decide), if_neg (by rw [bI_0 h28]; decide), if_neg (by rw [bI_0 h39]; decide), if_neg (by rw [bI_0 h50]; decide), if_neg (by rw [bI_0 h61]; decide), if_pos (bI_1 h72)]; done)
                        | (rw [if_neg (by rw [bI_0 h6]; decide), if_neg (by rw [bI_0 h17]; decide), if_neg (by rw [bI_0 h28]; decide), if_neg (by rw [bI_0 h39]; decide), if_neg (by rw [bI_0 h50]; decide), if_neg (by rw [bI_0 h61]; decide), if_neg (by rw [bI_0 h72]; decide), if_pos (bI_1 h84)]; done)
                        | (rw [if_neg (by rw [bI_0 h6]; decide), if_neg (by rw [bI_0 h17]; decide), if_neg (by rw [bI_0 h28]; decide), if_neg (by rw [bI_0 h39]; decide), if_neg (by rw [bI_0 h50]; decide), if_neg (by rw [bI_0 h61]; decide), if_neg (by rw [bI_0 h72]; decide), if_neg (by rw [bI_0 h84]; decide), if_pos (bI_1 h96)]; done)
                        | (rw [if_neg (by rw [bI_0 h6]; decide), if_neg (by rw [bI_0 h17]; decide), if_neg (by rw [bI_0 h28]; decide), if_neg (by rw [bI_0 h39]; decide), if_neg (by rw [bI_0 h50]; decide), if_neg (by rw [bI_0 h61]; decide), if_neg (by rw [bI_0 h72]; decide), if_neg (by rw [bI_0 h84]; decide), if_neg (by rw [bI_0 h96]; decide), if_pos (bI_1 h108)]; done)
                        | (rw [if_neg (by rw [bI_0 h6]; decide), if_neg (by rw [bI_0 h17]; decide), if_neg (by rw [bI_0 h28]; decide), if_neg (by rw [bI_0 h39]; decide), if_neg (by rw [bI_0 h50]; decide), if_neg (by rw [bI_0 h61]; decide), if_neg (by rw [bI_0 h72]; decide), if_neg (by rw [bI_0 h84]; decide), if_neg (by rw [bI_0 h96]; decide), if_neg (by rw [bI_0 h108]; decide), if_pos (bI_1 h120)]; done)
                        | (rw [if_neg (by rw [bI_0 h6]; decide), if_neg (by rw [bI_0 h17]; decide), if_neg (by rw [bI_0 h28]; decide), if_neg (by rw [bI_0 h39]; decide), if_neg (by rw [bI_0 h50]; decide), if_neg (by rw [bI_0 h61]; decide), if_neg (by rw [bI_0 h72]; decide), if_neg (by rw [bI_0 h84]; decide), if_neg (by rw [bI_0 h96]; decide), if_neg (by rw [bI_0 h108]; decide), if_neg (by rw [bI_0 h120]; decide)]; done)
                  · skip
                    refine r_bipush (v := 8) X dX4_nameOf_99 (by decide) ?_
                    refine r_ireturn X dX4_nameOf_101 rfl (by first | omega | decide | (simp only [rmL, rmA]; omega)) (by first | omega | decide | (simp only [rmL, rmA]; omega)) ?_
                    refine ⟨?_, rfl⟩
                    simp only [wName]
                    first
                      | (rw [if_pos (bI_1 h6)]; done)
                      | (rw [if_neg (by rw [bI_0 h6]; decide), if_pos (bI_1 h17)]; done)
                      | (rw [if_neg (by rw [bI_0 h6]; decide), if_neg (by rw [bI_0 h17]; decide), if_pos (bI_1 h28)]; done)
                      | (rw [if_neg (by rw [bI_0 h6]; decide), if_neg (by rw [bI_0 h17]; decide), if_neg (by rw [bI_0 h28]; decide), if_pos (bI_1 h39)]; done)
                      | (rw [if_neg (by rw [bI_0 h6]; decide), if_neg (by rw [bI_0 h17]; decide), if_neg (by rw [bI_0 h28]; decide), if_neg (by rw [bI_0 h39]; decide), if_pos (bI_1 h50)]; done)
                      | (rw [if_neg (by rw [bI_0 h6]; decide), if_neg (by rw [bI_0 h17]; decide), if_neg (by rw [bI_0 h28]; decide), if_neg (by rw [bI_0 h39]; decide), if_neg (by rw [bI_0 h50]; decide), if_pos (bI_1 h61)]; done)
                      | (rw [if_neg (by rw [bI_0 h6]; decide), if_neg (by rw [bI_0 h17]; decide), if_neg (by rw [bI_0 h28]; decide), if_neg (by rw [bI_0 h39]; decide), if_neg (by rw [bI_0 h50]; decide), if_neg (by rw [bI_0 h61]; decide), if_pos (bI_1 h72)]; done)
                      | (rw [if_neg (by rw [bI_0 h6]; decide), if_neg (by rw [bI_0 h17]; decide), if_neg (by rw [bI_0 h28]; decide), if_neg (by rw [bI_0 h39]; decide), if_neg (by rw [bI_0 h50]; decide), if_neg (by rw [bI_0 h61]; decide), if_neg (by rw [bI_0 h72]; decide), if_pos (bI_1 h84)]; done)
                      | (rw [if_neg (by rw [bI_0 h6]; decide), if_neg (by rw [bI_0 h17]; decide), if_neg (by rw [bI_0 h28]; decide), if_neg (by rw [bI_0 h39]; decide), if_neg (by rw [bI_0 h50]; decide), if_neg (by rw [bI_0 h61]; decide), if_neg (by rw [bI_0 h72]; decide), if_neg (by rw [bI_0 h84]; decide), if_pos (bI_1 h96)]; done)
                      | (rw [if_neg (by rw [bI_0 h6]; decide), if_neg (by rw [bI_0 h17]; decide), if_neg (by rw [bI_0 h28]; decide), if_neg (by rw [bI_0 h39]; decide), if_neg (by rw [bI_0 h50]; decide), if_neg (by rw [bI_0 h61]; decide), if_neg (by rw [bI_0 h72]; decide), if_neg (by rw [bI_0 h84]; decide), if_neg (by rw [bI_0 h96]; decide), if_pos (bI_1 h108)]; done)
                      | (rw [if_neg (by rw [bI_0 h6]; decide), if_neg (by rw [bI_0 h17]; decide), if_neg (by rw [bI_0 h28]; decide), if_neg (by rw [bI_0 h39]; decide), if_neg (by rw [bI_0 h50]; decide), if_neg (by rw [bI_0 h61]; decide), if_neg (by rw [bI_0 h72]; decide), if_neg (by rw [bI_0 h84]; decide), if_neg (by rw [bI_0 h96]; decide), if_neg (by rw [bI_0 h108]; decide), if_pos (bI_1 h120)]; done)
                      | (rw [if_neg (by rw [bI_0 h6]; decide), if_neg (by rw [bI_0 h17]; decide), if_neg (by rw [bI_0 h28]; decide), if_neg (by rw [bI_0 h39]; decide), if_neg (by rw [bI_0 h50]; decide), if_neg (by rw [bI_0 h61]; decide), if_neg (by rw [bI_0 h72]; decide), if_neg (by rw [bI_0 h84]; decide), if_neg (by rw [bI_0 h96]; decide), if_neg (by rw [bI_0 h108]; decide), if_neg (by rw [bI_0 h120]; decide)]; done)
                · skip
                  refine r_bipush (v := 7) X dX4_nameOf_87 (by decide) ?_
                  refine r_ireturn X dX4_nameOf_89 rfl (by first | omega | decide | (simp only [rmL, rmA]; omega)) (by first | omega | decide | (simp only [rmL, rmA]; omega)) ?_
                  refine ⟨?_, rfl⟩
                  simp only [wName]
                  first
                    | (rw [if_pos (bI_1 h6)]; done)
                    | (rw [if_neg (by rw [bI_0 h6]; decide), if_pos (bI_1 h17)]; done)
                    | (rw [if_neg (by rw [bI_0 h6]; decide), if_neg (by rw [bI_0 h17]; decide), if_pos (bI_1 h28)]; done)
                    | (rw [if_neg (by rw [bI_0 h6]; decide), if_neg (by rw [bI_0 h17]; decide), if_neg (by rw [bI_0 h28]; decide), if_pos (bI_1 h39)]; done)
                    | (rw [if_neg (by rw [bI_0 h6]; decide), if_neg (by rw [bI_0 h17]; decide), if_neg (by rw [bI_0 h28]; decide), if_neg (by rw [bI_0 h39]; decide), if_pos (bI_1 h50)]; done)
                    | (rw [if_neg (by rw [bI_0 h6]; decide), if_neg (by rw [bI_0 h17]; decide), if_neg (by rw [bI_0 h28]; decide), if_neg (by rw [bI_0 h39]; decide), if_neg (by rw [bI_0 h50]; decide), if_pos (bI_1 h61)]; done)
                    | (rw [if_neg (by rw [bI_0 h6]; decide), if_neg (by rw [bI_0 h17]; decide), if_neg (by rw [bI_0 h28]; decide), if_neg (by rw [bI_0 h39]; decide), if_neg (by rw [bI_0 h50]; decide), if_neg (by rw [bI_0 h61]; decide), if_pos (bI_1 h72)]; done)
                    | (rw [if_neg (by rw [bI_0 h6]; decide), if_neg (by rw [bI_0 h17]; decide), if_neg (by rw [bI_0 h28]; decide), if_neg (by rw [bI_0 h39]; decide), if_neg (by rw [bI_0 h50]; decide), if_neg (by rw [bI_0 h61]; decide), if_neg (by rw [bI_0 h72]; decide), if_pos (bI_1 h84)]; done)
                    | (rw [if_neg (by rw [bI_0 h6]; decide), if_neg (by rw [bI_0 h17]; decide), if_neg (by rw [bI_0 h28]; decide), if_neg (by rw [bI_0 h39]; decide), if_neg (by rw [bI_0 h50]; decide), if_neg (by rw [bI_0 h61]; decide), if_neg (by rw [bI_0 h72]; decide), if_neg (by rw [bI_0 h84]; decide), if_pos (bI_1 h96)]; done)
                    | (rw [if_neg (by rw [bI_0 h6]; decide), if_neg (by rw [bI_0 h17]; decide), if_neg (by rw [bI_0 h28]; decide), if_neg (by rw [bI_0 h39]; decide), if_neg (by rw [bI_0 h50]; decide), if_neg (by rw [bI_0 h61]; decide), if_neg (by rw [bI_0 h72]; decide), if_neg (by rw [bI_0 h84]; decide), if_neg (by rw [bI_0 h96]; decide), if_pos (bI_1 h108)]; done)
                    | (rw [if_neg (by rw [bI_0 h6]; decide), if_neg (by rw [bI_0 h17]; decide), if_neg (by rw [bI_0 h28]; decide), if_neg (by rw [bI_0 h39]; decide), if_neg (by rw [bI_0 h50]; decide), if_neg (by rw [bI_0 h61]; decide), if_neg (by rw [bI_0 h72]; decide), if_neg (by rw [bI_0 h84]; decide), if_neg (by rw [bI_0 h96]; decide), if_neg (by rw [bI_0 h108]; decide), if_pos (bI_1 h120)]; done)
                    | (rw [if_neg (by rw [bI_0 h6]; decide), if_neg (by rw [bI_0 h17]; decide), if_neg (by rw [bI_0 h28]; decide), if_neg (by rw [bI_0 h39]; decide), if_neg (by rw [bI_0 h50]; decide), if_neg (by rw [bI_0 h61]; decide), if_neg (by rw [bI_0 h72]; decide), if_neg (by rw [bI_0 h84]; decide), if_neg (by rw [bI_0 h96]; decide), if_neg (by rw [bI_0 h108]; decide), if_neg (by rw [bI_0 h120]; decide)]; done)
              · skip
                refine r_bipush (v := 6) X dX4_nameOf_75 (by decide) ?_
                refine r_ireturn X dX4_nameOf_77 rfl (by first | omega | decide | (simp only [rmL, rmA]; omega)) (by first | omega | decide | (simp only [rmL, rmA]; omega)) ?_
                refine ⟨?_, rfl⟩
                simp only [wName]
                first
                  | (rw [if_pos (bI_1 h6)]; done)
                  | (rw [if_neg (by rw [bI_0 h6]; decide), if_pos (bI_1 h17)]; done)
                  | (rw [if_neg (by rw [bI_0 h6]; decide), if_neg (by rw [bI_0 h17]; decide), if_pos (bI_1 h28)]; done)
                  | (rw [if_neg (by rw [bI_0 h6]; decide), if_neg (by rw [bI_0 h17]; decide), if_neg (by rw [bI_0 h28]; decide), if_pos (bI_1 h39)]; done)
                  | (rw [if_neg (by rw [bI_0 h6]; decide), if_neg (by rw [bI_0 h17]; decide), if_neg (by rw [bI_0 h28]; decide), if_neg (by rw [bI_0 h39]; decide), if_pos (bI_1 h50)]; done)
                  | (rw [if_neg (by rw [bI_0 h6]; decide), if_neg (by rw [bI_0 h17]; decide), if_neg (by rw [bI_0 h28]; decide), if_neg (by rw [bI_0 h39]; decide), if_neg (by rw [bI_0 h50]; decide), if_pos (bI_1 h61)]; done)
                  | (rw [if_neg (by rw [bI_0 h6]; decide), if_neg (by rw [bI_0 h17]; decide), if_neg (by rw [bI_0 h28]; decide), if_neg (by rw [bI_0 h39]; decide), if_neg (by rw [bI_0 h50]; decide), if_neg (by rw [bI_0 h61]; decide), if_pos (bI_1 h72)]; done)
                  | (rw [if_neg (by rw [bI_0 h6]; decide), if_neg (by rw [bI_0 h17]; decide), if_neg (by rw [bI_0 h28]; decide), if_neg (by rw [bI_0 h39]; decide), if_neg (by rw [bI_0 h50]; decide), if_neg (by rw [bI_0 h61]; decide), if_neg (by rw [bI_0 h72]; decide), if_pos (bI_1 h84)]; done)
                  | (rw [if_neg (by rw [bI_0 h6]; decide), if_neg (by rw [bI_0 h17]; decide), if_neg (by rw [bI_0 h28]; decide), if_neg (by rw [bI_0 h39]; decide), if_neg (by rw [bI_0 h50]; decide), if_neg (by rw [bI_0 h61]; decide), if_neg (by rw [bI_0 h72]; decide), if_neg (by rw [bI_0 h84]; decide), if_pos (bI_1 h96)]; done)
                  | (rw [if_neg (by rw [bI_0 h6]; decide), if_neg (by rw [bI_0 h17]; decide), if_neg (by rw [bI_0 h28]; decide), if_neg (by rw [bI_0 h39]; decide), if_neg (by rw [bI_0 h50]; decide), if_neg (by rw [bI_0 h61]; decide), if_neg (by rw [bI_0 h72]; decide), if_neg (by rw [bI_0 h84]; decide), if_neg (by rw [bI_0 h96]; decide), if_pos (bI_1 h108)]; done)
                  | (rw [if_neg (by rw [bI_0 h6]; decide), if_neg (by rw [bI_0 h17]; decide), if_neg (by rw [bI_0 h28]; decide), if_neg (by rw [bI_0 h39]; decide), if_neg (by rw [bI_0 h50]; decide), if_neg (by rw [bI_0 h61]; decide), if_neg (by rw [bI_0 h72]; decide), if_neg (by rw [bI_0 h84]; decide), if_neg (by rw [bI_0 h96]; decide), if_neg (by rw [bI_0 h108]; decide), if_pos (bI_1 h120)]; done)
                  | (rw [if_neg (by rw [bI_0 h6]; decide), if_neg (by rw [bI_0 h17]; decide), if_neg (by rw [bI_0 h28]; decide), if_neg (by rw [bI_0 h39]; decide), if_neg (by rw [bI_0 h50]; decide), if_neg (by rw [bI_0 h61]; decide), if_neg (by rw [bI_0 h72]; decide), if_neg (by rw [bI_0 h84]; decide), if_neg (by rw [bI_0 h96]; decide), if_neg (by rw [bI_0 h108]; decide), if_neg (by rw [bI_0 h120]; decide)]; done)
            · skip
              refine r_iconst (v := 5) X dX4_nameOf_64 (by decide) ?_
              refine r_ireturn X dX4_nameOf_65 rfl (by first | omega | decide | (simp only [rmL, rmA]; omega)) (by first | omega | decide | (simp only [rmL, rmA]; omega)) ?_
              refine ⟨?_, rfl⟩
              simp only [wName]
              first
                | (rw [if_pos (bI_1 h6)]; done)
                | (rw [if_neg (by rw [bI_0 h6]; decide), if_pos (bI_1 h17)]; done)
                | (rw [if_neg (by rw [bI_0 h6]; decide), if_neg (by rw [bI_0 h17]; decide), if_pos (bI_1 h28)]; done)
                | (rw [if_neg (by rw [bI_0 h6]; decide), if_neg (by rw [bI_0 h17]; decide), if_neg (by rw [bI_0 h28]; decide), if_pos (bI_1 h39)]; done)
                | (rw [if_neg (by rw [bI_0 h6]; decide), if_neg (by rw [bI_0 h17]; decide), if_neg (by rw [bI_0 h28]; decide), if_neg (by rw [bI_0 h39]; decide), if_pos (bI_1 h50)]; done)
                | (rw [if_neg (by rw [bI_0 h6]; decide), if_neg (by rw [bI_0 h17]; decide), if_neg (by rw [bI_0 h28]; decide), if_neg (by rw [bI_0 h39]; decide), if_neg (by rw [bI_0 h50]; decide), if_pos (bI_1 h61)]; done)
                | (rw [if_neg (by rw [bI_0 h6]; decide), if_neg (by rw [bI_0 h17]; decide), if_neg (by rw [bI_0 h28]; decide), if_neg (by rw [bI_0 h39]; decide), if_neg (by rw [bI_0 h50]; decide), if_neg (by rw [bI_0 h61]; decide), if_pos (bI_1 h72)]; done)
                | (rw [if_neg (by rw [bI_0 h6]; decide), if_neg (by rw [bI_0 h17]; decide), if_neg (by rw [bI_0 h28]; decide), if_neg (by rw [bI_0 h39]; decide), if_neg (by rw [bI_0 h50]; decide), if_neg (by rw [bI_0 h61]; decide), if_neg (by rw [bI_0 h72]; decide), if_pos (bI_1 h84)]; done)
                | (rw [if_neg (by rw [bI_0 h6]; decide), if_neg (by rw [bI_0 h17]; decide), if_neg (by rw [bI_0 h28]; decide), if_neg (by rw [bI_0 h39]; decide), if_neg (by rw [bI_0 h50]; decide), if_neg (by rw [bI_0 h61]; decide), if_neg (by rw [bI_0 h72]; decide), if_neg (by rw [bI_0 h84]; decide), if_pos (bI_1 h96)]; done)
                | (rw [if_neg (by rw [bI_0 h6]; decide), if_neg (by rw [bI_0 h17]; decide), if_neg (by rw [bI_0 h28]; decide), if_neg (by rw [bI_0 h39]; decide), if_neg (by rw [bI_0 h50]; decide), if_neg (by rw [bI_0 h61]; decide), if_neg (by rw [bI_0 h72]; decide), if_neg (by rw [bI_0 h84]; decide), if_neg (by rw [bI_0 h96]; decide), if_pos (bI_1 h108)]; done)
                | (rw [if_neg (by rw [bI_0 h6]; decide), if_neg (by rw [bI_0 h17]; decide), if_neg (by rw [bI_0 h28]; decide), if_neg (by rw [bI_0 h39]; decide), if_neg (by rw [bI_0 h50]; decide), if_neg (by rw [bI_0 h61]; decide), if_neg (by rw [bI_0 h72]; decide), if_neg (by rw [bI_0 h84]; decide), if_neg (by rw [bI_0 h96]; decide), if_neg (by rw [bI_0 h108]; decide), if_pos (bI_1 h120)]; done)
                | (rw [if_neg (by rw [bI_0 h6]; decide), if_neg (by rw [bI_0 h17]; decide), if_neg (by rw [bI_0 h28]; decide), if_neg (by rw [bI_0 h39]; decide), if_neg (by rw [bI_0 h50]; decide), if_neg (by rw [bI_0 h61]; decide), if_neg (by rw [bI_0 h72]; decide), if_neg (by rw [bI_0 h84]; decide), if_neg (by rw [bI_0 h96]; decide), if_neg (by rw [bI_0 h108]; decide), if_neg (by rw [bI_0 h120]; decide)]; done)
          · skip
            refine r_iconst (v := 4) X dX4_nameOf_53 (by decide) ?_
            refine r_ireturn X dX4_nameOf_54 rfl (by first | omega | decide | (simp only [rmL, rmA]; omega)) (by first | omega | decide | (simp only [rmL, rmA]; omega)) ?_
            refine ⟨?_, rfl⟩
            simp only [wName]
            first
              | (rw [if_pos (bI_1 h6)]; done)
              | (rw [if_neg (by rw [bI_0 h6]; decide), if_pos (bI_1 h17)]; done)
              | (rw [if_neg (by rw [bI_0 h6]; decide), if_neg (by rw [bI_0 h17]; decide), if_pos (bI_1 h28)]; done)
              | (rw [if_neg (by rw [bI_0 h6]; decide), if_neg (by rw [bI_0 h17]; decide), if_neg (by rw [bI_0 h28]; decide), if_pos (bI_1 h39)]; done)
              | (rw [if_neg (by rw [bI_0 h6]; decide), if_neg (by rw [bI_0 h17]; decide), if_neg (by rw [bI_0 h28]; decide), if_neg (by rw [bI_0 h39]; decide), if_pos (bI_1 h50)]; done)
              | (rw [if_neg (by rw [bI_0 h6]; decide), if_neg (by rw [bI_0 h17]; decide), if_neg (by rw [bI_0 h28]; decide), if_neg (by rw [bI_0 h39]; decide), if_neg (by rw [bI_0 h50]; decide), if_pos (bI_1 h61)]; done)
              | (rw [if_neg (by rw [bI_0 h6]; decide), if_neg (by rw [bI_0 h17]; decide), if_neg (by rw [bI_0 h28]; decide), if_neg (by rw [bI_0 h39]; decide), if_neg (by rw [bI_0 h50]; decide), if_neg (by rw [bI_0 h61]; decide), if_pos (bI_1 h72)]; done)
              | (rw [if_neg (by rw [bI_0 h6]; decide), if_neg (by rw [bI_0 h17]; decide), if_neg (by rw [bI_0 h28]; decide), if_neg (by rw [bI_0 h39]; decide), if_neg (by rw [bI_0 h50]; decide), if_neg (by rw [bI_0 h61]; decide), if_neg (by rw [bI_0 h72]; decide), if_pos (bI_1 h84)]; done)
              | (rw [if_neg (by rw [bI_0 h6]; decide), if_neg (by rw [bI_0 h17]; decide), if_neg (by rw [bI_0 h28]; decide), if_neg (by rw [bI_0 h39]; decide), if_neg (by rw [bI_0 h50]; decide), if_neg (by rw [bI_0 h61]; decide), if_neg (by rw [bI_0 h72]; decide), if_neg (by rw [bI_0 h84]; decide), if_pos (bI_1 h96)]; done)
              | (rw [if_neg (by rw [bI_0 h6]; decide), if_neg (by rw [bI_0 h17]; decide), if_neg (by rw [bI_0 h28]; decide), if_neg (by rw [bI_0 h39]; decide), if_neg (by rw [bI_0 h50]; decide), if_neg (by rw [bI_0 h61]; decide), if_neg (by rw [bI_0 h72]; decide), if_neg (by rw [bI_0 h84]; decide), if_neg (by rw [bI_0 h96]; decide), if_pos (bI_1 h108)]; done)
              | (rw [if_neg (by rw [bI_0 h6]; decide), if_neg (by rw [bI_0 h17]; decide), if_neg (by rw [bI_0 h28]; decide), if_neg (by rw [bI_0 h39]; decide), if_neg (by rw [bI_0 h50]; decide), if_neg (by rw [bI_0 h61]; decide), if_neg (by rw [bI_0 h72]; decide), if_neg (by rw [bI_0 h84]; decide), if_neg (by rw [bI_0 h96]; decide), if_neg (by rw [bI_0 h108]; decide), if_pos (bI_1 h120)]; done)
              | (rw [if_neg (by rw [bI_0 h6]; decide), if_neg (by rw [bI_0 h17]; decide), if_neg (by rw [bI_0 h28]; decide), if_neg (by rw [bI_0 h39]; decide), if_neg (by rw [bI_0 h50]; decide), if_neg (by rw [bI_0 h61]; decide), if_neg (by rw [bI_0 h72]; decide), if_neg (by rw [bI_0 h84]; decide), if_neg (by rw [bI_0 h96]; decide), if_neg (by rw [bI_0 h108]; decide), if_neg (by rw [bI_0 h120]; decide)]; done)
        · skip
          refine r_iconst (v := 3) X dX4_nameOf_42 (by decide) ?_
          refine r_ireturn X dX4_nameOf_43 rfl (by first | omega | decide | (simp only [rmL, rmA]; omega)) (by first | omega | decide | (simp only [rmL, rmA]; omega)) ?_
          refine ⟨?_, rfl⟩
          simp only [wName]
          first
            | (rw [if_pos (bI_1 h6)]; done)
            | (rw [if_neg (by rw [bI_0 h6]; decide), if_pos (bI_1 h17)]; done)
            | (rw [if_neg (by rw [bI_0 h6]; decide), if_neg (by rw [bI_0 h17]; decide), if_pos (bI_1 h28)]; done)
            | (rw [if_neg (by rw [bI_0 h6]; decide), if_neg (by rw [bI_0 h17]; decide), if_neg (by rw [bI_0 h28]; decide), if_pos (bI_1 h39)]; done)
            | (rw [if_neg (by rw [bI_0 h6]; decide), if_neg (by rw [bI_0 h17]; decide), if_neg (by rw [bI_0 h28]; decide), if_neg (by rw [bI_0 h39]; decide), if_pos (bI_1 h50)]; done)
            | (rw [if_neg (by rw [bI_0 h6]; decide), if_neg (by rw [bI_0 h17]; decide), if_neg (by rw [bI_0 h28]; decide), if_neg (by rw [bI_0 h39]; decide), if_neg (by rw [bI_0 h50]; decide), if_pos (bI_1 h61)]; done)
            | (rw [if_neg (by rw [bI_0 h6]; decide), if_neg (by rw [bI_0 h17]; decide), if_neg (by rw [bI_0 h28]; decide), if_neg (by rw [bI_0 h39]; decide), if_neg (by rw [bI_0 h50]; decide), if_neg (by rw [bI_0 h61]; decide), if_pos (bI_1 h72)]; done)
            | (rw [if_neg (by rw [bI_0 h6]; decide), if_neg (by rw [bI_0 h17]; decide), if_neg (by rw [bI_0 h28]; decide), if_neg (by rw [bI_0 h39]; decide), if_neg (by rw [bI_0 h50]; decide), if_neg (by rw [bI_0 h61]; decide), if_neg (by rw [bI_0 h72]; decide), if_pos (bI_1 h84)]; done)
            | (rw [if_neg (by rw [bI_0 h6]; decide), if_neg (by rw [bI_0 h17]; decide), if_neg (by rw [bI_0 h28]; decide), if_neg (by rw [bI_0 h39]; decide), if_neg (by rw [bI_0 h50]; decide), if_neg (by rw [bI_0 h61]; decide), if_neg (by rw [bI_0 h72]; decide), if_neg (by rw [bI_0 h84]; decide), if_pos (bI_1 h96)]; done)
            | (rw [if_neg (by rw [bI_0 h6]; decide), if_neg (by rw [bI_0 h17]; decide), if_neg (by rw [bI_0 h28]; decide), if_neg (by rw [bI_0 h39]; decide), if_neg (by rw [bI_0 h50]; decide), if_neg (by rw [bI_0 h61]; decide), if_neg (by rw [bI_0 h72]; decide), if_neg (by rw [bI_0 h84]; decide), if_neg (by rw [bI_0 h96]; decide), if_pos (bI_1 h108)]; done)
            | (rw [if_neg (by rw [bI_0 h6]; decide), if_neg (by rw [bI_0 h17]; decide), if_neg (by rw [bI_0 h28]; decide), if_neg (by rw [bI_0 h39]; decide), if_neg (by rw [bI_0 h50]; decide), if_neg (by rw [bI_0 h61]; decide), if_neg (by rw [bI_0 h72]; decide), if_neg (by rw [bI_0 h84]; decide), if_neg (by rw [bI_0 h96]; decide), if_neg (by rw [bI_0 h108]; decide), if_pos (bI_1 h120)]; done)
            | (rw [if_neg (by rw [bI_0 h6]; decide), if_neg (by rw [bI_0 h17]; decide), if_neg (by rw [bI_0 h28]; decide), if_neg (by rw [bI_0 h39]; decide), if_neg (by rw [bI_0 h50]; decide), if_neg (by rw [bI_0 h61]; decide), if_neg (by rw [bI_0 h72]; decide), if_neg (by rw [bI_0 h84]; decide), if_neg (by rw [bI_0 h96]; decide), if_neg (by rw [bI_0 h108]; decide), if_neg (by rw [bI_0 h120]; decide)]; done)
      · skip
        refine r_iconst (v := 2) X dX4_nameOf_31 (by decide) ?_
        refine r_ireturn X dX4_nameOf_32 rfl (by first | omega | decide | (simp only [rmL, rmA]; omega)) (by first | omega | decide | (simp only [rmL, rmA]; omega)) ?_
        refine ⟨?_, rfl⟩
        simp only [wName]
        first
          | (rw [if_pos (bI_1 h6)]; done)
          | (rw [if_neg (by rw [bI_0 h6]; decide), if_pos (bI_1 h17)]; done)
          | (rw [if_neg (by rw [bI_0 h6]; decide), if_neg (by rw [bI_0 h17]; decide), if_pos (bI_1 h28)]; done)
          | (rw [if_neg (by rw [bI_0 h6]; decide), if_neg (by rw [bI_0 h17]; decide), if_neg (by rw [bI_0 h28]; decide), if_pos (bI_1 h39)]; done)
          | (rw [if_neg (by rw [bI_0 h6]; decide), if_neg (by rw [bI_0 h17]; decide), if_neg (by rw [bI_0 h28]; decide), if_neg (by rw [bI_0 h39]; decide), if_pos (bI_1 h50)]; done)
          | (rw [if_neg (by rw [bI_0 h6]; decide), if_neg (by rw [bI_0 h17]; decide), if_neg (by rw [bI_0 h28]; decide), if_neg (by rw [bI_0 h39]; decide), if_neg (by rw [bI_0 h50]; decide), if_pos (bI_1 h61)]; done)
          | (rw [if_neg (by rw [bI_0 h6]; decide), if_neg (by rw [bI_0 h17]; decide), if_neg (by rw [bI_0 h28]; decide), if_neg (by rw [bI_0 h39]; decide), if_neg (by rw [bI_0 h50]; decide), if_neg (by rw [bI_0 h61]; decide), if_pos (bI_1 h72)]; done)
          | (rw [if_neg (by rw [bI_0 h6]; decide), if_neg (by rw [bI_0 h17]; decide), if_neg (by rw [bI_0 h28]; decide), if_neg (by rw [bI_0 h39]; decide), if_neg (by rw [bI_0 h50]; decide), if_neg (by rw [bI_0 h61]; decide), if_neg (by rw [bI_0 h72]; decide), if_pos (bI_1 h84)]; done)
          | (rw [if_neg (by rw [bI_0 h6]; decide), if_neg (by rw [bI_0 h17]; decide), if_neg (by rw [bI_0 h28]; decide), if_neg (by rw [bI_0 h39]; decide), if_neg (by rw [bI_0 h50]; decide), if_neg (by rw [bI_0 h61]; decide), if_neg (by rw [bI_0 h72]; decide), if_neg (by rw [bI_0 h84]; decide), if_pos (bI_1 h96)]; done)
          | (rw [if_neg (by rw [bI_0 h6]; decide), if_neg (by rw [bI_0 h17]; decide), if_neg (by rw [bI_0 h28]; decide), if_neg (by rw [bI_0 h39]; decide), if_neg (by rw [bI_0 h50]; decide), if_neg (by rw [bI_0 h61]; decide), if_neg (by rw [bI_0 h72]; decide), if_neg (by rw [bI_0 h84]; decide), if_neg (by rw [bI_0 h96]; decide), if_pos (bI_1 h108)]; done)
          | (rw [if_neg (by rw [bI_0 h6]; decide), if_neg (by rw [bI_0 h17]; decide), if_neg (by rw [bI_0 h28]; decide), if_neg (by rw [bI_0 h39]; decide), if_neg (by rw [bI_0 h50]; decide), if_neg (by rw [bI_0 h61]; decide), if_neg (by rw [bI_0 h72]; decide), if_neg (by rw [bI_0 h84]; decide), if_neg (by rw [bI_0 h96]; decide), if_neg (by rw [bI_0 h108]; decide), if_pos (bI_1 h120)]; done)
          | (rw [if_neg (by rw [bI_0 h6]; decide), if_neg (by rw [bI_0 h17]; decide), if_neg (by rw [bI_0 h28]; decide), if_neg (by rw [bI_0 h39]; decide), if_neg (by rw [bI_0 h50]; decide), if_neg (by rw [bI_0 h61]; decide), if_neg (by rw [bI_0 h72]; decide), if_neg (by rw [bI_0 h84]; decide), if_neg (by rw [bI_0 h96]; decide), if_neg (by rw [bI_0 h108]; decide), if_neg (by rw [bI_0 h120]; decide)]; done)
    · skip
      refine r_iconst (v := 1) X dX4_nameOf_20 (by decide) ?_
      refine r_ireturn X dX4_nameOf_21 rfl (by first | omega | decide | (simp only [rmL, rmA]; omega)) (by first | omega | decide | (simp only [rmL, rmA]; omega)) ?_
      refine ⟨?_, rfl⟩
      simp only [wName]
      first
        | (rw [if_pos (bI_1 h6)]; done)
        | (rw [if_neg (by rw [bI_0 h6]; decide), if_pos (bI_1 h17)]; done)
        | (rw [if_neg (by rw [bI_0 h6]; decide), if_neg (by rw [bI_0 h17]; decide), if_pos (bI_1 h28)]; done)
        | (rw [if_neg (by rw [bI_0 h6]; decide), if_neg (by rw [bI_0 h17]; decide), if_neg (by rw [bI_0 h28]; decide), if_pos (bI_1 h39)]; done)
        | (rw [if_neg (by rw [bI_0 h6]; decide), if_neg (by rw [bI_0 h17]; decide), if_neg (by rw [bI_0 h28]; decide), if_neg (by rw [bI_0 h39]; decide), if_pos (bI_1 h50)]; done)
        | (rw [if_neg (by rw [bI_0 h6]; decide), if_neg (by rw [bI_0 h17]; decide), if_neg (by rw [bI_0 h28]; decide), if_neg (by rw [bI_0 h39]; decide), if_neg (by rw [bI_0 h50]; decide), if_pos (bI_1 h61)]; done)
        | (rw [if_neg (by rw [bI_0 h6]; decide), if_neg (by rw [bI_0 h17]; decide), if_neg (by rw [bI_0 h28]; decide), if_neg (by rw [bI_0 h39]; decide), if_neg (by rw [bI_0 h50]; decide), if_neg (by rw [bI_0 h61]; decide), if_pos (bI_1 h72)]; done)
        | (rw [if_neg (by rw [bI_0 h6]; decide), if_neg (by rw [bI_0 h17]; decide), if_neg (by rw [bI_0 h28]; decide), if_neg (by rw [bI_0 h39]; decide), if_neg (by rw [bI_0 h50]; decide), if_neg (by rw [bI_0 h61]; decide), if_neg (by rw [bI_0 h72]; decide), if_pos (bI_1 h84)]; done)
        | (rw [if_neg (by rw [bI_0 h6]; decide), if_neg (by rw [bI_0 h17]; decide), if_neg (by rw [bI_0 h28]; decide), if_neg (by rw [bI_0 h39]; decide), if_neg (by rw [bI_0 h50]; decide), if_neg (by rw [bI_0 h61]; decide), if_neg (by rw [bI_0 h72]; decide), if_neg (by rw [bI_0 h84]; decide), if_pos (bI_1 h96)]; done)
        | (rw [if_neg (by rw [bI_0 h6]; decide), if_neg (by rw [bI_0 h17]; decide), if_neg (by rw [bI_0 h28]; decide), if_neg (by rw [bI_0 h39]; decide), if_neg (by rw [bI_0 h50]; decide), if_neg (by rw [bI_0 h61]; decide), if_neg (by rw [bI_0 h72]; decide), if_neg (by rw [bI_0 h84]; decide), if_neg (by rw [bI_0 h96]; decide), if_pos (bI_1 h108)]; done)
        | (rw [if_neg (by rw [bI_0 h6]; decide), if_neg (by rw [bI_0 h17]; decide), if_neg (by rw [bI_0 h28]; decide), if_neg (by rw [bI_0 h39]; decide), if_neg (by rw [bI_0 h50]; decide), if_neg (by rw [bI_0 h61]; decide), if_neg (by rw [bI_0 h72]; decide), if_neg (by rw [bI_0 h84]; decide), if_neg (by rw [bI_0 h96]; decide), if_neg (by rw [bI_0 h108]; decide), if_pos (bI_1 h120)]; done)
        | (rw [if_neg (by rw [bI_0 h6]; decide), if_neg (by rw [bI_0 h17]; decide), if_neg (by rw [bI_0 h28]; decide), if_neg (by rw [bI_0 h39]; decide), if_neg (by rw [bI_0 h50]; decide), if_neg (by rw [bI_0 h61]; decide), if_neg (by rw [bI_0 h72]; decide), if_neg (by rw [bI_0 h84]; decide), if_neg (by rw [bI_0 h96]; decide), if_neg (by rw [bI_0 h108]; decide), if_neg (by rw [bI_0 h120]; decide)]; done)
  · skip
    refine r_iconst (v := 0) X dX4_nameOf_9 (by decide) ?_
    refine r_ireturn X dX4_nameOf_10 rfl (by first | omega | decide | (simp only [rmL, rmA]; omega)) (by first | omega | decide | (simp only [rmL, rmA]; omega)) ?_
    refine ⟨?_, rfl⟩
    simp only [wName]
    first
      | (rw [if_pos (bI_1 h6)]; done)
      | (rw [if_neg (by rw [bI_0 h6]; decide), if_pos (bI_1 h17)]; done)
      | (rw [if_neg (by rw [bI_0 h6]; decide), if_neg (by rw [bI_0 h17]; decide), if_pos (bI_1 h28)]; done)
      | (rw [if_neg (by rw [bI_0 h6]; decide), if_neg (by rw [bI_0 h17]; decide), if_neg (by rw [bI_0 h28]; decide), if_pos (bI_1 h39)]; done)
      | (rw [if_neg (by rw [bI_0 h6]; decide), if_neg (by rw [bI_0 h17]; decide), if_neg (by rw [bI_0 h28]; decide), if_neg (by rw [bI_0 h39]; decide), if_pos (bI_1 h50)]; done)
      | (rw [if_neg (by rw [bI_0 h6]; decide), if_neg (by rw [bI_0 h17]; decide), if_neg (by rw [bI_0 h28]; decide), if_neg (by rw [bI_0 h39]; decide), if_neg (by rw [bI_0 h50]; decide), if_pos (bI_1 h61)]; done)
      | (rw [if_neg (by rw [bI_0 h6]; decide), if_neg (by rw [bI_0 h17]; decide), if_neg (by rw [bI_0 h28]; decide), if_neg (by rw [bI_0 h39]; decide), if_neg (by rw [bI_0 h50]; decide), if_neg (by rw [bI_0 h61]; decide), if_pos (bI_1 h72)]; done)
      | (rw [if_neg (by rw [bI_0 h6]; decide), if_neg (by rw [bI_0 h17]; decide), if_neg (by rw [bI_0 h28]; decide), if_neg (by rw [bI_0 h39]; decide), if_neg (by rw [bI_0 h50]; decide), if_neg (by rw [bI_0 h61]; decide), if_neg (by rw [bI_0 h72]; decide), if_pos (bI_1 h84)]; done)
      | (rw [if_neg (by rw [bI_0 h6]; decide), if_neg (by rw [bI_0 h17]; decide), if_neg (by rw [bI_0 h28]; decide), if_neg (by rw [bI_0 h39]; decide), if_neg (by rw [bI_0 h50]; decide), if_neg (by rw [bI_0 h61]; decide), if_neg (by rw [bI_0 h72]; decide), if_neg (by rw [bI_0 h84]; decide), if_pos (bI_1 h96)]; done)
      | (rw [if_neg (by rw [bI_0 h6]; decide), if_neg (by rw [bI_0 h17]; decide), if_neg (by rw [bI_0 h28]; decide), if_neg (by rw [bI_0 h39]; decide), if_neg (by rw [bI_0 h50]; decide), if_neg (by rw [bI_0 h61]; decide), if_neg (by rw [bI_0 h72]; decide), if_neg (by rw [bI_0 h84]; decide), if_neg (by rw [bI_0 h96]; decide), if_pos (bI_1 h108)]; done)
      | (rw [if_neg (by rw [bI_0 h6]; decide), if_neg (by rw [bI_0 h17]; decide), if_neg (by rw [bI_0 h28]; decide), if_neg (by rw [bI_0 h39]; decide), if_neg (by rw [bI_0 h50]; decide), if_neg (by rw [bI_0 h61]; decide), if_neg (by rw [bI_0 h72]; decide), if_neg (by rw [bI_0 h84]; decide), if_neg (by rw [bI_0 h96]; decide), if_neg (by rw [bI_0 h108]; decide), if_pos (bI_1 h120)]; done)
      | (rw [if_neg (by rw [bI_0 h6]; decide), if_neg (by rw [bI_0 h17]; decide), if_neg (by rw [bI_0 h28]; decide), if_neg (by rw [bI_0 h39]; decide), if_neg (by rw [bI_0 h50]; decide), if_neg (by rw [bI_0 h61]; decide), if_neg (by rw [bI_0 h72]; decide), if_neg (by rw [bI_0 h84]; decide), if_neg (by rw [bI_0 h96]; decide), if_neg (by rw [bI_0 h108]; decide), if_neg (by rw [bI_0 h120]; decide)]; done)
