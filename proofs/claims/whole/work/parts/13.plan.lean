/-! ===== Name, Plan: what a rule asks ===== -/
def nmVal (I : Mem) (t r m n l s : Nat) (x : Int32) : Int32 :=
  if x = 0 then I t 12 else if x = 1 then I t 13 else if x = 2 then iMax 0 (dLeast I (t + 1) m) else if x = 3 then dMean I (t + 1) m else if x = 4 then I (r + 4) (s / 6) + 100 else if x = 5 then I t 9 else if x = 6 then I (t + 1) 4
  else if x = 7 then lenOf I r n l - I t 11 else if x = 8 then nI (s / 6 % 24) else if x = 9 then (if I t 11 = 0 then nI l else 99) else if x = 10 then tLoad I t else 0
set_option maxHeartbeats 2000000 in
set_option maxRecDepth 20000 in
/-- SledHouse$Name.valueOf -/
theorem c_nmVal {E : Ev} (GE : Glob E) (S : Nat → Option (Nat × Nat)) (I : Nat → Nat → Int32) (V : Nat → Nat → Option Nat) (J : Nat → Nat → Int64) (N : Nat) (t r m n l s : Nat) (x : Int32) (hT : TeamSh S V t) (hR : TrailSh S V r) (hm : I (t + 1) 3 = nI m) (hm6 : m ≤ 16) (hl : I t 10 = nI l) (hl12 : l ≤ 12) (hn : I r 4 = nI n) (hn12 : n ≤ 12) (hs : s < 2000) : Ct E yX3_valueOf cX3_valueOf 4 (some .int) (rmL 2) [.int x, .ref t, .ref r, .int (nI s)] (S, I, V, J, N) (fun v w' => v = some (.int (nmVal I t r m n l s x)) ∧ w' = (S, I, V, J, N)) := by
  refine Ct.start GE (by decide) rfl (Nat.le_of_ble_eq_true rfl) (fun M X => ?_)
  have X : Cx E M RX3 cX3_valueOf 4 (rmL 2) (some .int) "valueOf" := X
  refine r_loc (L' := [some (.int x), some (.ref t), some (.ref r), some (.int (nI s))]) rfl ?_
  have hT' := hT
  have hR' := hR
  obtain ⟨hs0, hv0, hv1, hv2, hv3, hD, hG, hs8, hs9⟩ := hT
  have hD0 := hD.1
  have hR0 := hR.1
  refine r_iload_n X dX3_valueOf_0 rfl rfl ?_
  refine r_sw (0) (fun h1_0 => ?_) (fun h1_0 => ?_)
  · skip
    refine r_tableIn (off := 59) (tgt := 60) X dX3_valueOf_1 (by rw [h1_0]; decide) (by rw [h1_0]; decide) (by rw [h1_0]; rfl) (by decide) ?_
    refine r_aload_n X dX3_valueOf_60 rfl rfl ?_
    refine r_getI X dX3_valueOf_61 fX3_9 (by assumption) (by first | assumption | rfl) ?_
    refine r_ireturn X dX3_valueOf_64 rfl (by first | omega | decide) (by first | omega | decide) ?_
    exact ⟨by simp [nmVal, *], rfl⟩
  · skip
    refine r_sw (1) (fun h1_1 => ?_) (fun h1_1 => ?_)
    · skip
      refine r_tableIn (off := 64) (tgt := 65) X dX3_valueOf_1 (by rw [h1_1]; decide) (by rw [h1_1]; decide) (by rw [h1_1]; rfl) (by decide) ?_
      refine r_aload_n X dX3_valueOf_65 rfl rfl ?_
      refine r_getI X dX3_valueOf_66 fX3_15 (by assumption) (by first | assumption | rfl) ?_
      refine r_ireturn X dX3_valueOf_69 rfl (by first | omega | decide) (by first | omega | decide) ?_
      exact ⟨by simp [nmVal, *], rfl⟩
    · skip
      refine r_sw (2) (fun h1_2 => ?_) (fun h1_2 => ?_)
      · skip
        refine r_tableIn (off := 69) (tgt := 70) X dX3_valueOf_1 (by rw [h1_2]; decide) (by rw [h1_2]; decide) (by rw [h1_2]; rfl) (by decide) ?_
        refine r_aload_n X dX3_valueOf_70 rfl rfl ?_
        refine r_getR X dX3_valueOf_71 fX3_18 (by assumption) (by assumption) ?_
        refine q_callV X dX3_valueOf_74 mX3_22 cwX0_leastStrength (c_dLeast GE S I V J N (t + 1) m hD hm hm6) rfl (by assumption) rfl rfl rfl (Nat.le_of_ble_eq_true rfl) ⟨by decide, by decide⟩ ⟨by first | omega | decide, by first | omega | decide⟩ ?_
        rintro _ _ ⟨rfl, rfl⟩
        refine r_ireturn X dX3_valueOf_77 rfl (by first | omega | decide) (by first | omega | decide) ?_
        exact ⟨by simp [nmVal, *], rfl⟩
      · skip
        refine r_sw (3) (fun h1_3 => ?_) (fun h1_3 => ?_)
        · skip
          refine r_tableIn (off := 77) (tgt := 78) X dX3_valueOf_1 (by rw [h1_3]; decide) (by rw [h1_3]; decide) (by rw [h1_3]; rfl) (by decide) ?_
          refine r_aload_n X dX3_valueOf_78 rfl rfl ?_
          refine r_getR X dX3_valueOf_79 fX3_18 (by assumption) (by assumption) ?_
          refine q_callV X dX3_valueOf_82 mX3_28 cwX0_meanStrength (c_dMean GE S I V J N (t + 1) m hD hm hm6) rfl (by assumption) rfl rfl rfl (Nat.le_of_ble_eq_true rfl) ⟨by decide, by decide⟩ ⟨by first | omega | decide, by first | omega | decide⟩ ?_
          rintro _ _ ⟨rfl, rfl⟩
          refine r_ireturn X dX3_valueOf_85 rfl (by first | omega | decide) (by first | omega | decide) ?_
          exact ⟨by simp [nmVal, *], rfl⟩
        · skip
          refine r_sw (4) (fun h1_4 => ?_) (fun h1_4 => ?_)
          · skip
            refine r_tableIn (off := 85) (tgt := 86) X dX3_valueOf_1 (by rw [h1_4]; decide) (by rw [h1_4]; decide) (by rw [h1_4]; rfl) (by decide) ?_
            refine r_aload_n X dX3_valueOf_86 rfl rfl ?_
            refine r_iload_n X dX3_valueOf_87 rfl rfl ?_
            refine q_callV X dX3_valueOf_88 mX3_31 cwX9_coldIn (c_trCold GE S I V J N r s hR' (by omega)) rfl (by assumption) rfl rfl rfl (Nat.le_of_ble_eq_true rfl) ⟨by decide, by decide⟩ ⟨by first | omega | decide, by first | omega | decide⟩ ?_
            rintro _ _ ⟨rfl, rfl⟩
            refine r_bipush (v := 100) X dX3_valueOf_91 (by decide) ?_
            refine r_iadd X dX3_valueOf_93 ?_
            refine r_ireturn X dX3_valueOf_94 rfl (by first | omega | decide) (by first | omega | decide) ?_
            exact ⟨by simp [nmVal, *], rfl⟩
          · skip
            refine r_sw (5) (fun h1_5 => ?_) (fun h1_5 => ?_)
            · skip
              refine r_tableIn (off := 94) (tgt := 95) X dX3_valueOf_1 (by rw [h1_5]; decide) (by rw [h1_5]; decide) (by rw [h1_5]; rfl) (by decide) ?_
              refine r_aload_n X dX3_valueOf_95 rfl rfl ?_
              refine r_getI X dX3_valueOf_96 fX3_37 (by assumption) (by first | assumption | rfl) ?_
              refine r_ireturn X dX3_valueOf_99 rfl (by first | omega | decide) (by first | omega | decide) ?_
              exact ⟨by simp [nmVal, *], rfl⟩
            · skip
              refine r_sw (6) (fun h1_6 => ?_) (fun h1_6 => ?_)
              · skip
                refine r_tableIn (off := 99) (tgt := 100) X dX3_valueOf_1 (by rw [h1_6]; decide) (by rw [h1_6]; decide) (by rw [h1_6]; rfl) (by decide) ?_
                refine r_aload_n X dX3_valueOf_100 rfl rfl ?_
                refine r_getR X dX3_valueOf_101 fX3_18 (by assumption) (by assumption) ?_
                refine r_getI X dX3_valueOf_104 fX3_40 (by assumption) (by first | assumption | rfl) ?_
                refine r_ireturn X dX3_valueOf_107 rfl (by first | omega | decide) (by first | omega | decide) ?_
                exact ⟨by simp [nmVal, *], rfl⟩
              · skip
                refine r_sw (7) (fun h1_7 => ?_) (fun h1_7 => ?_)
                · skip
                  refine r_tableIn (off := 107) (tgt := 108) X dX3_valueOf_1 (by rw [h1_7]; decide) (by rw [h1_7]; decide) (by rw [h1_7]; rfl) (by decide) ?_
                  refine r_aload_n X dX3_valueOf_108 rfl rfl ?_
                  refine r_aload_n X dX3_valueOf_109 rfl rfl ?_
                  refine r_getI X dX3_valueOf_110 fX3_43 (by assumption) (by first | assumption | rfl) ?_
                  refine q_callV X dX3_valueOf_113 mX3_46 cwX9_lengthOf (c_trLen GE S I V J N r n l hR' hn hn12 (by omega)) rfl (by assumption) rfl rfl rfl (Nat.le_of_ble_eq_true rfl) ⟨by decide, by decide⟩ ⟨by first | omega | decide, by first | omega | decide⟩ ?_
                  rintro _ _ ⟨rfl, rfl⟩
                  refine r_aload_n X dX3_valueOf_116 rfl rfl ?_
                  refine r_getI X dX3_valueOf_117 fX3_49 (by assumption) (by first | assumption | rfl) ?_
                  refine r_isub X dX3_valueOf_120 ?_
                  refine r_ireturn X dX3_valueOf_121 rfl (by first | omega | decide) (by first | omega | decide) ?_
                  exact ⟨by simp [nmVal, *], rfl⟩
                · skip
                  refine r_sw (8) (fun h1_8 => ?_) (fun h1_8 => ?_)
                  · skip
                    refine r_tableIn (off := 121) (tgt := 122) X dX3_valueOf_1 (by rw [h1_8]; decide) (by rw [h1_8]; decide) (by rw [h1_8]; rfl) (by decide) ?_
                    refine r_iload_n X dX3_valueOf_122 rfl rfl ?_
                    refine r_bipush (v := 6) X dX3_valueOf_123 (by decide) ?_
                    refine r_idiv X dX3_valueOf_125 (by decide) ?_
                    refine r_topi (nI (s / 6)) (pk_div (by omega) (by decide) (by decide)) ?_
                    refine r_bipush (v := 24) X dX3_valueOf_126 (by decide) ?_
                    refine r_irem X dX3_valueOf_128 (by decide) ?_
                    refine r_topi (nI (s / 6 % 24)) (pk_rem (by omega) (by decide) (by decide)) ?_
                    refine r_ireturn X dX3_valueOf_129 rfl (by first | omega | decide) (by first | omega | decide) ?_
                    exact ⟨by simp [nmVal, *], rfl⟩
                  · skip
                    refine r_sw (9) (fun h1_9 => ?_) (fun h1_9 => ?_)
                    · skip
                      refine r_tableIn (off := 129) (tgt := 130) X dX3_valueOf_1 (by rw [h1_9]; decide) (by rw [h1_9]; decide) (by rw [h1_9]; rfl) (by decide) ?_
                      refine r_aload_n X dX3_valueOf_130 rfl rfl ?_
                      refine r_getI X dX3_valueOf_131 fX3_49 (by assumption) (by first | assumption | rfl) ?_
                      refine r_if_ne (tgt := 144) X dX3_valueOf_134 (by decide) (fun h134 => ?_) (fun h134 => ?_)
                      · skip
                        refine r_bipush (v := 99) X dX3_valueOf_144 (by decide) ?_
                        refine r_ireturn X dX3_valueOf_146 rfl (by first | omega | decide) (by first | omega | decide) ?_
                        exact ⟨by simp [nmVal, *], rfl⟩
                      · skip
                        refine r_aload_n X dX3_valueOf_137 rfl rfl ?_
                        refine r_getI X dX3_valueOf_138 fX3_43 (by assumption) (by first | assumption | rfl) ?_
                        refine r_goto (tgt := 146) X dX3_valueOf_141 (by decide) ?_
                        refine r_ireturn X dX3_valueOf_146 rfl (by first | omega | decide) (by first | omega | decide) ?_
                        exact ⟨by simp [nmVal, *], rfl⟩
                    · skip
                      refine r_sw (10) (fun h1_10 => ?_) (fun h1_10 => ?_)
                      · skip
                        refine r_tableIn (off := 146) (tgt := 147) X dX3_valueOf_1 (by rw [h1_10]; decide) (by rw [h1_10]; decide) (by rw [h1_10]; rfl) (by decide) ?_
                        refine r_aload_n X dX3_valueOf_147 rfl rfl ?_
                        refine q_callV X dX3_valueOf_148 mX3_52 cwX8_loadNow (c_tLoad GE S I V J N t hT') rfl (by assumption) rfl rfl rfl (Nat.le_of_ble_eq_true rfl) ⟨by decide, by decide⟩ ⟨by first | omega | decide, by first | omega | decide⟩ ?_
                        rintro _ _ ⟨rfl, rfl⟩
                        refine r_ireturn X dX3_valueOf_151 rfl (by first | omega | decide) (by first | omega | decide) ?_
                        exact ⟨by simp [nmVal, *], rfl⟩
                      · skip
                        refine r_tableOut (tgt := 152) X dX3_valueOf_1 (by have e0 := lv_neT (a := 0) h1_0 (by decide); have e1 := lv_neT (a := 1) h1_1 (by decide); have e2 := lv_neT (a := 2) h1_2 (by decide); have e3 := lv_neT (a := 3) h1_3 (by decide); have e4 := lv_neT (a := 4) h1_4 (by decide); have e5 := lv_neT (a := 5) h1_5 (by decide); have e6 := lv_neT (a := 6) h1_6 (by decide); have e7 := lv_neT (a := 7) h1_7 (by decide); have e8 := lv_neT (a := 8) h1_8 (by decide); have e9 := lv_neT (a := 9) h1_9 (by decide); have e10 := lv_neT (a := 10) h1_10 (by decide); omega) (by decide) ?_
                        refine r_iconst (v := 0) X dX3_valueOf_152 (by decide) ?_
                        refine r_ireturn X dX3_valueOf_153 rfl (by first | omega | decide) (by first | omega | decide) ?_
                        exact ⟨by simp [nmVal, *], rfl⟩
def PlanSh (S : Nat → Option (Nat × Nat)) (V : Nat → Nat → Option Nat) (p : Nat) : Prop := S p = some (3, 0) ∧ V p 0 = some (p + 1) ∧ V p 1 = some (p + 2) ∧ V p 2 = some (p + 3) ∧ V p 3 = some (p + 4) ∧ V p 4 = some (p + 5) ∧ V p 5 = some (p + 6) ∧ S (p + 1) = some (100, 12) ∧ S (p + 2) = some (100, 12) ∧ S (p + 3) = some (100, 12) ∧ S (p + 4) = some (100, 48) ∧ S (p + 5) = some (100, 48) ∧ S (p + 6) = some (102, 48)
def pF (I : Mem) (p q : Nat) : Nat := (I (p + 2) q).toNatClampNeg
def pC (I : Mem) (p q : Nat) : Nat := (I (p + 3) q).toNatClampNeg
/-- a plan of nr rules, its tests within their row -/
def PlanOK (I : Mem) (p nr : Nat) : Prop := I p 6 = nI nr ∧ nr ≤ 12 ∧ ∀ q, q < nr → I (p + 2) q = nI (pF I p q) ∧ I (p + 3) q = nI (pC I p q) ∧ pF I p q + pC I p q ≤ 48
def pTest (I : Mem) (p t r m n l s i : Nat) : Bool := if I (p + 6) i = 0 then decide (nmVal I t r m n l s (I (p + 4) i) < I (p + 5) i) else decide (I (p + 5) i < nmVal I t r m n l s (I (p + 4) i))
def pHolds (I : Mem) (p t r m n l s q : Nat) : Bool := (List.range (pC I p q)).all fun i => pTest I p t r m n l s (pF I p q + i)
theorem pHolds_yes {I : Mem} {p t r m n l s q : Nat} (h : ∀ i, i < pC I p q → pTest I p t r m n l s (pF I p q + i) = true) : pHolds I p t r m n l s q = true := by
  unfold pHolds
  rw [List.all_eq_true]
  exact fun i hi => h i (List.mem_range.mp hi)
theorem pHolds_no {I : Mem} {p t r m n l s q : Nat} (i : Nat) (hi : i < pC I p q) (h : pTest I p t r m n l s (pF I p q + i) = false) : pHolds I p t r m n l s q = false := by
  unfold pHolds
  rw [List.all_eq_false]
  exact ⟨i, List.mem_range.mpr hi, by rw [h]; decide⟩
set_option maxHeartbeats 2000000 in
set_option maxRecDepth 20000 in
/-- SledHouse$Plan.holds -/
theorem c_pHolds {E : Ev} (GE : Glob E) (S : Nat → Option (Nat × Nat)) (I : Nat → Nat → Int32) (V : Nat → Nat → Option Nat) (J : Nat → Nat → Int64) (N : Nat) (p t r m n l s q nr : Nat) (hP : PlanSh S V p) (hT : TeamSh S V t) (hR : TrailSh S V r) (hm : I (t + 1) 3 = nI m) (hm6 : m ≤ 16) (hl : I t 10 = nI l) (hl12 : l ≤ 12) (hn : I r 4 = nI n) (hn12 : n ≤ 12) (hs : s < 2000) (hO : PlanOK I p nr) (hq : q < nr) : Ct E yX4_holds cX4_holds 8 (some .boolean) (rmL 3) [.ref p, .int (nI q), .ref t, .ref r, .int (nI s)] (S, I, V, J, N) (fun v w' => v = some (.int (bI (pHolds I p t r m n l s q))) ∧ w' = (S, I, V, J, N)) := by
  refine Ct.start GE (by decide) rfl (Nat.le_of_ble_eq_true rfl) (fun M X => ?_)
  have X : Cx E M RX4 cX4_holds 8 (rmL 3) (some .boolean) "holds" := X
  refine r_loc (L' := [some (.ref p), some (.int (nI q)), some (.ref t), some (.ref r), some (.int (nI s)), none, none, none]) rfl ?_
  obtain ⟨hs0, hv0, hv1, hv2, hv3, hv4, hv5, hs1, hs2, hs3, hs4, hs5, hs6⟩ := hP
  obtain ⟨hr6, hr12, hrq⟩ := hO
  obtain ⟨hf, hc, hfc⟩ := hrq q hq
  refine r_aload_n X dX4_holds_0 rfl rfl ?_
  refine r_getR X dX4_holds_1 fX4_15 (by assumption) (by assumption) ?_
  refine r_iload_n X dX4_holds_4 rfl rfl ?_
  refine r_ialdN X dX4_holds_5 (by assumption) (by omega) (by omega) (by first | assumption | rfl) ?_
  refine r_aload_n X dX4_holds_6 rfl rfl ?_
  refine r_getR X dX4_holds_7 fX4_18 (by assumption) (by assumption) ?_
  refine r_iload_n X dX4_holds_10 rfl rfl ?_
  refine r_ialdN X dX4_holds_11 (by assumption) (by omega) (by omega) (by first | assumption | rfl) ?_
  refine r_iadd X dX4_holds_12 ?_
  refine r_topi (nI (pF I p q + pC I p q)) (nI_add _ _) ?_
  refine r_istore X dX4_holds_13 (by decide) rfl ?_
  refine r_aload_n X dX4_holds_15 rfl rfl ?_
  refine r_getR X dX4_holds_16 fX4_15 (by assumption) (by assumption) ?_
  refine r_iload_n X dX4_holds_19 rfl rfl ?_
  refine r_ialdN X dX4_holds_20 (by assumption) (by omega) (by omega) (by first | assumption | rfl) ?_
  refine r_istore X dX4_holds_21 (by decide) rfl ?_
  have H : ∀ j, j ≤ (pC I p q) → ∀ x7, (∀ i, i < j → pTest I p t r m n l s (pF I p q + i) = true) → G E M 0 0 (qQ E M (rmL 3) (fun v w' => v = some (.int (bI (pHolds I p t r m n l s q))) ∧ w' = (S, I, V, J, N))) 23 [some (.ref p), some (.int (nI q)), some (.ref t), some (.ref r), some (.int (nI s)), some (.int (nI (pF I p q + pC I p q))), some (.int (nI (pF I p q + j))), x7] [] (S, I, V, J, N) := by
    refine loopN (pC I p q) (fun j hj ih => ?_)
    intro x7 hyes
    have hst : okst [some (.ref p), some (.int (nI q)), some (.ref t), some (.ref r), some (.int (nI s)), some (.int (nI (pF I p q + pC I p q))), some (.int (nI (pF I p q + j))), x7] 7 = true := rfl
    refine r_iload X dX4_holds_23 rfl ?_
    refine r_iload X dX4_holds_25 rfl ?_
    refine r_icmpN_ge (tgt := 91) X dX4_holds_27 (by decide) (by omega) (by omega) (fun h27 => ?_) (fun h27 => ?_)
    · skip
      refine r_iconst (v := 1) X dX4_holds_91 (by decide) ?_
      refine r_ireturn X dX4_holds_92 rfl (by first | omega | decide) (by first | omega | decide) ?_
      obtain rfl : j = pC I p q := by omega
      exact ⟨by rw [pHolds_yes hyes]; rfl, rfl⟩
    · skip
      refine r_aload_n X dX4_holds_30 rfl rfl ?_
      refine r_getR X dX4_holds_31 fX4_21 (by assumption) (by assumption) ?_
      refine r_iload X dX4_holds_34 rfl ?_
      refine r_ialdN X dX4_holds_36 (by assumption) (by omega) (by omega) (by first | assumption | rfl) ?_
      refine r_aload_n X dX4_holds_37 rfl rfl ?_
      refine r_aload_n X dX4_holds_38 rfl rfl ?_
      refine r_iload X dX4_holds_39 rfl ?_
      refine q_callS X dX4_holds_41 mX4_119 cwX3_valueOf (c_nmVal GE S I V J N t r m n l s _ hT hR hm hm6 hl hl12 hn hn12 hs) rfl rfl (Nat.le_of_ble_eq_true rfl) ⟨by decide, by decide⟩ ⟨by first | omega | decide, by first | omega | decide⟩ ?_
      rintro _ _ ⟨rfl, rfl⟩
      refine r_istore X dX4_holds_44 (by decide) rfl ?_
      refine r_aload_n X dX4_holds_46 rfl rfl ?_
      refine r_getR X dX4_holds_47 fX4_27 (by assumption) (by assumption) ?_
      refine r_iload X dX4_holds_50 rfl ?_
      refine r_zaldN X dX4_holds_52 (by assumption) (by omega) (by omega) (by first | assumption | rfl) ?_
      refine r_if_eq (tgt := 71) X dX4_holds_53 (by decide) (fun h53 => ?_) (fun h53 => ?_)
      · skip
        refine r_iload X dX4_holds_71 rfl ?_
        refine r_aload_n X dX4_holds_73 rfl rfl ?_
        refine r_getR X dX4_holds_74 fX4_24 (by assumption) (by assumption) ?_
        refine r_iload X dX4_holds_77 rfl ?_
        refine r_ialdN X dX4_holds_79 (by assumption) (by omega) (by omega) (by first | assumption | rfl) ?_
        refine r_icmp_lt (tgt := 85) X dX4_holds_80 (by decide) (fun h80 => ?_) (fun h80 => ?_)
        · skip
          first | refine r_iincN X dX4_holds_85 rfl (by decide) rfl ?_ | refine r_iinc X dX4_holds_85 rfl rfl (by decide) rfl ?_
          refine r_goto (tgt := 23) X dX4_holds_88 (by decide) ?_
          refine ih (by omega) _ (fun i hi => ?_)
          rcases Nat.lt_or_ge i j with z | z
          · exact hyes i z
          · obtain rfl : i = j := by omega
            simp [pTest, *]
        · skip
          refine r_iconst (v := 0) X dX4_holds_83 (by decide) ?_
          refine r_ireturn X dX4_holds_84 rfl (by first | omega | decide) (by first | omega | decide) ?_
          refine ⟨?_, rfl⟩
          rw [pHolds_no j (by omega)]
          · rfl
          · simp [pTest, *]
      · skip
        refine r_iload X dX4_holds_56 rfl ?_
        refine r_aload_n X dX4_holds_58 rfl rfl ?_
        refine r_getR X dX4_holds_59 fX4_24 (by assumption) (by assumption) ?_
        refine r_iload X dX4_holds_62 rfl ?_
        refine r_ialdN X dX4_holds_64 (by assumption) (by omega) (by omega) (by first | assumption | rfl) ?_
        refine r_icmp_gt (tgt := 85) X dX4_holds_65 (by decide) (fun h65 => ?_) (fun h65 => ?_)
        · skip
          first | refine r_iincN X dX4_holds_85 rfl (by decide) rfl ?_ | refine r_iinc X dX4_holds_85 rfl rfl (by decide) rfl ?_
          refine r_goto (tgt := 23) X dX4_holds_88 (by decide) ?_
          refine ih (by omega) _ (fun i hi => ?_)
          rcases Nat.lt_or_ge i j with z | z
          · exact hyes i z
          · obtain rfl : i = j := by omega
            simp [pTest, *]
        · skip
          refine r_goto (tgt := 83) X dX4_holds_68 (by decide) ?_
          refine r_iconst (v := 0) X dX4_holds_83 (by decide) ?_
          refine r_ireturn X dX4_holds_84 rfl (by first | omega | decide) (by first | omega | decide) ?_
          refine ⟨?_, rfl⟩
          rw [pHolds_no j (by omega)]
          · rfl
          · simp [pTest, *]
  exact H 0 (by omega) _ (fun i hi => absurd hi (by omega))
theorem bI_0 {b : Bool} (h : bI b = 0) : b = false := by
  cases b
  · rfl
  · exact absurd h (by decide)
theorem bI_1 {b : Bool} (h : ¬ bI b = 0) : b = true := by
  cases b
  · exact absurd rfl h
  · rfl
def rI (o : Option Nat) : Int32 := match o with
  | none => 100
  | some q => nI q
def pRule (I : Mem) (p t r m n l s nr : Nat) : Option Nat := fst1 (pHolds I p t r m n l s) nr
set_option maxHeartbeats 2000000 in
set_option maxRecDepth 20000 in
/-- SledHouse$Plan.ruleFor -/
theorem c_pRule {E : Ev} (GE : Glob E) (S : Nat → Option (Nat × Nat)) (I : Nat → Nat → Int32) (V : Nat → Nat → Option Nat) (J : Nat → Nat → Int64) (N : Nat) (p t r m n l s nr : Nat) (hP : PlanSh S V p) (hT : TeamSh S V t) (hR : TrailSh S V r) (hm : I (t + 1) 3 = nI m) (hm6 : m ≤ 16) (hl : I t 10 = nI l) (hl12 : l ≤ 12) (hn : I r 4 = nI n) (hn12 : n ≤ 12) (hs : s < 2000) (hO : PlanOK I p nr) : Ct E yX4_ruleFor cX4_ruleFor 5 (some .int) (rmL 4) [.ref p, .ref t, .ref r, .int (nI s)] (S, I, V, J, N) (fun v w' => v = some (.int (rI (pRule I p t r m n l s nr))) ∧ w' = (S, I, V, J, N)) := by
  refine Ct.start GE (by decide) rfl (Nat.le_of_ble_eq_true rfl) (fun M X => ?_)
  have X : Cx E M RX4 cX4_ruleFor 5 (rmL 4) (some .int) "ruleFor" := X
  refine r_loc (L' := [some (.ref p), some (.ref t), some (.ref r), some (.int (nI s)), none]) rfl ?_
  have hs0 := hP.1
  have hr6 := hO.1
  have hr12 := hO.2.1
  refine r_iconst (v := nI 0) X dX4_ruleFor_0 (by decide) ?_
  refine r_istore X dX4_ruleFor_1 (by decide) rfl ?_
  have H : ∀ j, j ≤ nr → (∀ q, q < j → pHolds I p t r m n l s q = false) → G E M 0 0 (qQ E M (rmL 4) (fun v w' => v = some (.int (rI (pRule I p t r m n l s nr))) ∧ w' = (S, I, V, J, N))) 3 [some (.ref p), some (.ref t), some (.ref r), some (.int (nI s)), some (.int (nI j))] [] (S, I, V, J, N) := by
    refine loopN nr (fun j hj ih => ?_)
    intro hno
    refine r_iload X dX4_ruleFor_3 rfl ?_
    refine r_aload_n X dX4_ruleFor_5 rfl rfl ?_
    refine r_getI X dX4_ruleFor_6 fX4_31 (by assumption) (by first | assumption | rfl) ?_
    refine r_icmpN_ge (tgt := 33) X dX4_ruleFor_9 (by decide) (by omega) (by omega) (fun h9 => ?_) (fun h9 => ?_)
    · skip
      refine r_bipush (v := 100) X dX4_ruleFor_33 (by decide) ?_
      refine r_ireturn X dX4_ruleFor_35 rfl (by first | omega | decide) (by first | omega | decide) ?_
      obtain rfl : j = nr := by omega
      exact ⟨by rw [pRule, fst1_none hno]; rfl, rfl⟩
    · skip
      refine r_aload_n X dX4_ruleFor_12 rfl rfl ?_
      refine r_iload X dX4_ruleFor_13 rfl ?_
      refine r_aload_n X dX4_ruleFor_15 rfl rfl ?_
      refine r_aload_n X dX4_ruleFor_16 rfl rfl ?_
      refine r_iload_n X dX4_ruleFor_17 rfl rfl ?_
      refine q_callV X dX4_ruleFor_18 mX4_115 cwX4_holds (c_pHolds GE S I V J N p t r m n l s j nr hP hT hR hm hm6 hl hl12 hn hn12 hs hO (by omega)) rfl (by assumption) rfl rfl rfl (Nat.le_of_ble_eq_true rfl) ⟨by decide, by decide⟩ ⟨by first | omega | decide, by first | omega | decide⟩ ?_
      rintro _ _ ⟨rfl, rfl⟩
      refine r_if_eq (tgt := 27) X dX4_ruleFor_21 (by decide) (fun h21 => ?_) (fun h21 => ?_)
      · skip
        first | refine r_iincN X dX4_ruleFor_27 rfl (by decide) rfl ?_ | refine r_iinc X dX4_ruleFor_27 rfl rfl (by decide) rfl ?_
        refine r_goto (tgt := 3) X dX4_ruleFor_30 (by decide) ?_
        refine ih (by omega) (fun q hq => ?_)
        rcases Nat.lt_or_ge q j with z | z
        · exact hno q z
        · obtain rfl : q = j := by omega
          exact bI_0 h21
      · skip
        refine r_iload X dX4_ruleFor_24 rfl ?_
        refine r_ireturn X dX4_ruleFor_26 rfl (by first | omega | decide) (by first | omega | decide) ?_
        exact ⟨by rw [pRule, fst1_some (bI_1 h21) hno (by omega)]; rfl, rfl⟩
  exact H 0 (by omega) (fun i hi => absurd hi (by omega))
def pAct (I : Mem) (p : Nat) (o : Option Nat) : Int32 := match o with
  | none => 0
  | some q => I (p + 1) q
set_option maxHeartbeats 2000000 in
set_option maxRecDepth 20000 in
/-- SledHouse$Plan.actOfRule -/
theorem c_pAct {E : Ev} (GE : Glob E) (S : Nat → Option (Nat × Nat)) (I : Nat → Nat → Int32) (V : Nat → Nat → Option Nat) (J : Nat → Nat → Int64) (N : Nat) (p nr : Nat) (o : Option Nat) (hP : PlanSh S V p) (hr6 : I p 6 = nI nr) (hr12 : nr ≤ 12) (ho : ∀ q, o = some q → q < nr) : Ct E yX4_actOfRule cX4_actOfRule 2 (some .int) (rmL 0) [.ref p, .int (rI o)] (S, I, V, J, N) (fun v w' => v = some (.int (pAct I p o)) ∧ w' = (S, I, V, J, N)) := by
  refine Ct.start GE (by decide) rfl (Nat.le_of_ble_eq_true rfl) (fun M X => ?_)
  have X : Cx E M RX4 cX4_actOfRule 2 (rmL 0) (some .int) "actOfRule" := X
  refine r_loc (L' := [some (.ref p), some (.int (rI o))]) rfl ?_
  obtain ⟨hs0, hv0, hv1, hv2, hv3, hv4, hv5, hs1, hs2, hs3, hs4, hs5, hs6⟩ := hP
  rcases o with _ | q
  · refine r_loc (L' := [some (.ref p), some (.int (nI 100))]) rfl ?_
    refine r_iload_n X dX4_actOfRule_0 rfl rfl ?_
    refine r_if_lt (tgt := 21) X dX4_actOfRule_1 (by decide) (fun h1 => ?_) (fun h1 => ?_)
    · skip
      exact absurd h1 (by decide)
    · skip
      refine r_iload_n X dX4_actOfRule_4 rfl rfl ?_
      refine r_aload_n X dX4_actOfRule_5 rfl rfl ?_
      refine r_getI X dX4_actOfRule_6 fX4_31 (by assumption) (by first | assumption | rfl) ?_
      refine r_icmpN_ge (tgt := 21) X dX4_actOfRule_9 (by decide) (by omega) (by omega) (fun h9 => ?_) (fun h9 => ?_)
      · skip
        refine r_iconst (v := 0) X dX4_actOfRule_21 (by decide) ?_
        refine r_ireturn X dX4_actOfRule_22 rfl (by first | omega | decide) (by first | omega | decide) ?_
        exact ⟨rfl, rfl⟩
      · skip
        omega
  · have hq := ho q rfl
    refine r_loc (L' := [some (.ref p), some (.int (nI q))]) rfl ?_
    refine r_iload_n X dX4_actOfRule_0 rfl rfl ?_
    refine r_if_lt (tgt := 21) X dX4_actOfRule_1 (by decide) (fun h1 => ?_) (fun h1 => ?_)
    · skip
      exact absurd h1 (nI_pos (by omega))
    · skip
      refine r_iload_n X dX4_actOfRule_4 rfl rfl ?_
      refine r_aload_n X dX4_actOfRule_5 rfl rfl ?_
      refine r_getI X dX4_actOfRule_6 fX4_31 (by assumption) (by first | assumption | rfl) ?_
      refine r_icmpN_ge (tgt := 21) X dX4_actOfRule_9 (by decide) (by omega) (by omega) (fun h9 => ?_) (fun h9 => ?_)
      · skip
        omega
      · skip
        refine r_aload_n X dX4_actOfRule_12 rfl rfl ?_
        refine r_getR X dX4_actOfRule_13 fX4_9 (by assumption) (by assumption) ?_
        refine r_iload_n X dX4_actOfRule_16 rfl rfl ?_
        refine r_ialdN X dX4_actOfRule_17 (by assumption) (by omega) (by omega) (by first | assumption | rfl) ?_
        refine r_goto (tgt := 22) X dX4_actOfRule_18 (by decide) ?_
        refine r_ireturn X dX4_actOfRule_22 rfl (by first | omega | decide) (by first | omega | decide) ?_
        exact ⟨rfl, rfl⟩
