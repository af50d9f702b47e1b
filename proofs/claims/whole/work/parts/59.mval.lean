/-! ===== the reference: what a rule asks ===== -/
def mVl (I : Mem) (g t m w l s : Nat) (x : Int32) : Int32 :=
  if x = 0 then I t 8 else if x = 1 then I t 9 else if x = 2 then I (t + 1) w else if x = 3 then mMean I t m else if x = 4 then I (g + 3) (s / 6) + 100 else if x = 5 then I t 2 else if x = 6 then mOf I t 0 m
  else if x = 7 then I (g + 1) l - I t 7 else if x = 8 then nI (s / 6 % 24) else if x = 9 then (if I t 7 = 0 then nI l else 99) else I t 1
set_option maxHeartbeats 2000000 in
set_option maxRecDepth 20000 in
/-- SledHouseModel.valueOf -/
theorem c_mVl {E : Ev} (GE : Glob E) (S : Nat → Option (Nat × Nat)) (I : Nat → Nat → Int32) (V : Nat → Nat → Option Nat) (J : Nat → Nat → Int64) (N : Nat) (g t m w l s : Nat) (x : Int32) (hM : MdSh S V g) (hT : MtSh S V t) (hm : I t 0 = nI m) (hm6 : m ≤ 16) (hw : dWeak I t m = some w) (hl : I t 6 = nI l) (hl12 : l < 12) (hs : s < 2000) : Ct E yX13_valueOf cX13_valueOf 4 (some .int) (rmL 2) [.ref g, .ref t, .int x, .int (nI s)] (S, I, V, J, N) (fun v w' => v = some (.int (mVl I g t m w l s x)) ∧ w' = (S, I, V, J, N)) := by
  refine Ct.start GE (by decide) rfl (Nat.le_of_ble_eq_true rfl) (fun M X => ?_)
  have X : Cx E M RX13 cX13_valueOf 4 (rmL 2) (some .int) "valueOf" := X
  refine r_loc (L' := [some (.ref g), some (.ref t), some (.int x), some (.int (nI s))]) rfl ?_
  obtain ⟨hs0, v8, v9, v10, v11, v16, v17, v18, v19, v20, s1, s2, s3, s4, s5, s6, s7, s8, hOt, hTe, hKt⟩ := id hM
  obtain ⟨ts0, u15, u16, u17, u18, u19, u20, u21, u22, u23, w1, w2, w3, w4, w5, w6, w7, w8, w9⟩ := id hT
  have hwl := dWeak_lt I t m w hw
  refine r_iload_n X dX13_valueOf_0 rfl rfl ?_
  refine r_sw (0) (fun h1_0 => ?_) (fun h1_0 => ?_)
  · skip
    refine r_tableIn (off := 55) (tgt := 56) X dX13_valueOf_1 (by rw [h1_0]; decide) (by rw [h1_0]; decide) (by rw [h1_0]; rfl) (by decide) ?_
    refine r_aload_n X dX13_valueOf_56 rfl rfl ?_
    refine r_getI X dX13_valueOf_57 fX13_310 (by assumption) (by first | assumption | rfl) ?_
    refine r_ireturn X dX13_valueOf_60 rfl (by first | omega | decide | (simp only [rmL, rmA]; omega)) (by first | omega | decide | (simp only [rmL, rmA]; omega)) ?_
    exact ⟨by simp [mVl, *], rfl⟩
  · skip
    refine r_sw (1) (fun h1_1 => ?_) (fun h1_1 => ?_)
    · skip
      refine r_tableIn (off := 60) (tgt := 61) X dX13_valueOf_1 (by rw [h1_1]; decide) (by rw [h1_1]; decide) (by rw [h1_1]; rfl) (by decide) ?_
      refine r_aload_n X dX13_valueOf_61 rfl rfl ?_
      refine r_getI X dX13_valueOf_62 fX13_312 (by assumption) (by first | assumption | rfl) ?_
      refine r_ireturn X dX13_valueOf_65 rfl (by first | omega | decide | (simp only [rmL, rmA]; omega)) (by first | omega | decide | (simp only [rmL, rmA]; omega)) ?_
      exact ⟨by simp [mVl, *], rfl⟩
    · skip
      refine r_sw (2) (fun h1_2 => ?_) (fun h1_2 => ?_)
      · skip
        refine r_tableIn (off := 65) (tgt := 66) X dX13_valueOf_1 (by rw [h1_2]; decide) (by rw [h1_2]; decide) (by rw [h1_2]; rfl) (by decide) ?_
        refine r_aload_n X dX13_valueOf_66 rfl rfl ?_
        refine r_getR X dX13_valueOf_67 fX13_314 (by assumption) (by assumption) ?_
        refine r_aload_n X dX13_valueOf_70 rfl rfl ?_
        refine q_callV X dX13_valueOf_71 mX13_317 cwX12_weakest (c_mWeak GE S I V J N t m hT hm hm6) rfl (by assumption) rfl rfl rfl (Nat.le_of_ble_eq_true rfl) ⟨Nat.le_of_ble_eq_true rfl, Nat.le_of_ble_eq_true rfl⟩ ⟨(by first | omega | decide | (simp only [rmL, rmA]; omega)), (by first | omega | decide | (simp only [rmL, rmA]; omega))⟩ ?_
        rintro _ _ ⟨rfl, rfl⟩
        refine r_topi (nI w) (by rw [hw]; rfl) ?_
        refine r_ialdN X dX13_valueOf_74 (by assumption) (by omega) (by omega) (by first | assumption | rfl) ?_
        refine r_ireturn X dX13_valueOf_75 rfl (by first | omega | decide | (simp only [rmL, rmA]; omega)) (by first | omega | decide | (simp only [rmL, rmA]; omega)) ?_
        exact ⟨by simp [mVl, *], rfl⟩
      · skip
        refine r_sw (3) (fun h1_3 => ?_) (fun h1_3 => ?_)
        · skip
          refine r_tableIn (off := 75) (tgt := 76) X dX13_valueOf_1 (by rw [h1_3]; decide) (by rw [h1_3]; decide) (by rw [h1_3]; rfl) (by decide) ?_
          refine r_aload_n X dX13_valueOf_76 rfl rfl ?_
          refine q_callV X dX13_valueOf_77 mX13_320 cwX12_mean (c_mMean GE S I V J N t m hT hm hm6) rfl (by assumption) rfl rfl rfl (Nat.le_of_ble_eq_true rfl) ⟨Nat.le_of_ble_eq_true rfl, Nat.le_of_ble_eq_true rfl⟩ ⟨(by first | omega | decide | (simp only [rmL, rmA]; omega)), (by first | omega | decide | (simp only [rmL, rmA]; omega))⟩ ?_
          rintro _ _ ⟨rfl, rfl⟩
          refine r_ireturn X dX13_valueOf_80 rfl (by first | omega | decide | (simp only [rmL, rmA]; omega)) (by first | omega | decide | (simp only [rmL, rmA]; omega)) ?_
          exact ⟨by simp [mVl, *], rfl⟩
        · skip
          refine r_sw (4) (fun h1_4 => ?_) (fun h1_4 => ?_)
          · skip
            refine r_tableIn (off := 80) (tgt := 81) X dX13_valueOf_1 (by rw [h1_4]; decide) (by rw [h1_4]; decide) (by rw [h1_4]; rfl) (by decide) ?_
            refine r_aload_n X dX13_valueOf_81 rfl rfl ?_
            refine r_getR X dX13_valueOf_82 fX13_29 (by assumption) (by assumption) ?_
            refine r_iload_n X dX13_valueOf_85 rfl rfl ?_
            refine r_bipush (v := 6) X dX13_valueOf_86 (by decide) ?_
            refine r_idiv X dX13_valueOf_88 (by decide) ?_
            refine r_topi (nI (s / 6)) (pk_div (by omega) (by decide) (by decide)) ?_
            refine r_ialdN X dX13_valueOf_89 (by assumption) (by omega) (by omega) (by first | assumption | rfl) ?_
            refine r_bipush (v := 100) X dX13_valueOf_90 (by decide) ?_
            refine r_iadd X dX13_valueOf_92 ?_
            refine r_ireturn X dX13_valueOf_93 rfl (by first | omega | decide | (simp only [rmL, rmA]; omega)) (by first | omega | decide | (simp only [rmL, rmA]; omega)) ?_
            exact ⟨by simp [mVl, *], rfl⟩
          · skip
            refine r_sw (5) (fun h1_5 => ?_) (fun h1_5 => ?_)
            · skip
              refine r_tableIn (off := 93) (tgt := 94) X dX13_valueOf_1 (by rw [h1_5]; decide) (by rw [h1_5]; decide) (by rw [h1_5]; rfl) (by decide) ?_
              refine r_aload_n X dX13_valueOf_94 rfl rfl ?_
              refine r_getI X dX13_valueOf_95 fX13_322 (by assumption) (by first | assumption | rfl) ?_
              refine r_ireturn X dX13_valueOf_98 rfl (by first | omega | decide | (simp only [rmL, rmA]; omega)) (by first | omega | decide | (simp only [rmL, rmA]; omega)) ?_
              exact ⟨by simp [mVl, *], rfl⟩
            · skip
              refine r_sw (6) (fun h1_6 => ?_) (fun h1_6 => ?_)
              · skip
                refine r_tableIn (off := 98) (tgt := 99) X dX13_valueOf_1 (by rw [h1_6]; decide) (by rw [h1_6]; decide) (by rw [h1_6]; rfl) (by decide) ?_
                refine r_aload_n X dX13_valueOf_99 rfl rfl ?_
                refine r_iconst (v := 0) X dX13_valueOf_100 (by decide) ?_
                refine q_callV X dX13_valueOf_101 mX13_324 cwX12_of (c_mOf GE S I V J N t m _ hT hm hm6) rfl (by assumption) rfl rfl rfl (Nat.le_of_ble_eq_true rfl) ⟨Nat.le_of_ble_eq_true rfl, Nat.le_of_ble_eq_true rfl⟩ ⟨(by first | omega | decide | (simp only [rmL, rmA]; omega)), (by first | omega | decide | (simp only [rmL, rmA]; omega))⟩ ?_
                rintro _ _ ⟨rfl, rfl⟩
                refine r_ireturn X dX13_valueOf_104 rfl (by first | omega | decide | (simp only [rmL, rmA]; omega)) (by first | omega | decide | (simp only [rmL, rmA]; omega)) ?_
                exact ⟨by simp [mVl, *], rfl⟩
              · skip
                refine r_sw (7) (fun h1_7 => ?_) (fun h1_7 => ?_)
                · skip
                  refine r_tableIn (off := 104) (tgt := 105) X dX13_valueOf_1 (by rw [h1_7]; decide) (by rw [h1_7]; decide) (by rw [h1_7]; rfl) (by decide) ?_
                  refine r_aload_n X dX13_valueOf_105 rfl rfl ?_
                  refine r_getR X dX13_valueOf_106 fX13_22 (by assumption) (by assumption) ?_
                  refine r_aload_n X dX13_valueOf_109 rfl rfl ?_
                  refine r_getI X dX13_valueOf_110 fX13_307 (by assumption) (by first | assumption | rfl) ?_
                  refine r_ialdN X dX13_valueOf_113 (by assumption) (by omega) (by omega) (by first | assumption | rfl) ?_
                  refine r_aload_n X dX13_valueOf_114 rfl rfl ?_
                  refine r_getI X dX13_valueOf_115 fX13_304 (by assumption) (by first | assumption | rfl) ?_
                  refine r_isub X dX13_valueOf_118 ?_
                  refine r_ireturn X dX13_valueOf_119 rfl (by first | omega | decide | (simp only [rmL, rmA]; omega)) (by first | omega | decide | (simp only [rmL, rmA]; omega)) ?_
                  exact ⟨by simp [mVl, *], rfl⟩
                · skip
                  refine r_sw (8) (fun h1_8 => ?_) (fun h1_8 => ?_)
                  · skip
                    refine r_tableIn (off := 119) (tgt := 120) X dX13_valueOf_1 (by rw [h1_8]; decide) (by rw [h1_8]; decide) (by rw [h1_8]; rfl) (by decide) ?_
                    refine r_iload_n X dX13_valueOf_120 rfl rfl ?_
                    refine r_bipush (v := 6) X dX13_valueOf_121 (by decide) ?_
                    refine r_idiv X dX13_valueOf_123 (by decide) ?_
                    refine r_topi (nI (s / 6)) (pk_div (by omega) (by decide) (by decide)) ?_
                    refine r_bipush (v := 24) X dX13_valueOf_124 (by decide) ?_
                    refine r_irem X dX13_valueOf_126 (by decide) ?_
                    refine r_topi (nI (s / 6 % 24)) (pk_rem (by omega) (by decide) (by decide)) ?_
                    refine r_ireturn X dX13_valueOf_127 rfl (by first | omega | decide | (simp only [rmL, rmA]; omega)) (by first | omega | decide | (simp only [rmL, rmA]; omega)) ?_
                    exact ⟨by simp [mVl, *], rfl⟩
                  · skip
                    refine r_sw (9) (fun h1_9 => ?_) (fun h1_9 => ?_)
                    · skip
                      refine r_tableIn (off := 127) (tgt := 128) X dX13_valueOf_1 (by rw [h1_9]; decide) (by rw [h1_9]; decide) (by rw [h1_9]; rfl) (by decide) ?_
                      refine r_aload_n X dX13_valueOf_128 rfl rfl ?_
                      refine r_getI X dX13_valueOf_129 fX13_304 (by assumption) (by first | assumption | rfl) ?_
                      refine r_if_ne (tgt := 142) X dX13_valueOf_132 (by decide) (fun h132 => ?_) (fun h132 => ?_)
                      · skip
                        refine r_bipush (v := 99) X dX13_valueOf_142 (by decide) ?_
                        refine r_ireturn X dX13_valueOf_144 rfl (by first | omega | decide | (simp only [rmL, rmA]; omega)) (by first | omega | decide | (simp only [rmL, rmA]; omega)) ?_
                        exact ⟨by simp [mVl, *], rfl⟩
                      · skip
                        refine r_aload_n X dX13_valueOf_135 rfl rfl ?_
                        refine r_getI X dX13_valueOf_136 fX13_307 (by assumption) (by first | assumption | rfl) ?_
                        refine r_goto (tgt := 144) X dX13_valueOf_139 (by decide) ?_
                        refine r_ireturn X dX13_valueOf_144 rfl (by first | omega | decide | (simp only [rmL, rmA]; omega)) (by first | omega | decide | (simp only [rmL, rmA]; omega)) ?_
                        exact ⟨by simp [mVl, *], rfl⟩
                    · skip
                      refine r_tableOut (tgt := 145) X dX13_valueOf_1 (by have e0 := lv_neT (a := 0) h1_0 (by decide); have e1 := lv_neT (a := 1) h1_1 (by decide); have e2 := lv_neT (a := 2) h1_2 (by decide); have e3 := lv_neT (a := 3) h1_3 (by decide); have e4 := lv_neT (a := 4) h1_4 (by decide); have e5 := lv_neT (a := 5) h1_5 (by decide); have e6 := lv_neT (a := 6) h1_6 (by decide); have e7 := lv_neT (a := 7) h1_7 (by decide); have e8 := lv_neT (a := 8) h1_8 (by decide); have e9 := lv_neT (a := 9) h1_9 (by decide); omega) (by decide) ?_
                      refine r_aload_n X dX13_valueOf_145 rfl rfl ?_
                      refine r_getI X dX13_valueOf_146 fX13_327 (by assumption) (by first | assumption | rfl) ?_
                      refine r_ireturn X dX13_valueOf_149 rfl (by first | omega | decide | (simp only [rmL, rmA]; omega)) (by first | omega | decide | (simp only [rmL, rmA]; omega)) ?_
                      exact ⟨by simp [mVl, *], rfl⟩
def mTst (I : Mem) (g t m w l s i : Nat) : Bool := if I (g + 26) i = 0 then decide (I (g + 25) i < mVl I g t m w l s (I (g + 24) i)) else decide (mVl I g t m w l s (I (g + 24) i) < I (g + 25) i)
def mHol (I : Mem) (g t m w l s r : Nat) : Nat → Bool
  | 0 => true
  | j + 1 => mHol I g t m w l s r j && mTst I g t m w l s (4 * r + j)
def mTc (I : Mem) (g r : Nat) : Nat := (I (g + 23) r).toNatClampNeg
set_option maxHeartbeats 2000000 in
set_option maxRecDepth 20000 in
/-- SledHouseModel.holds -/
theorem c_mHol {E : Ev} (GE : Glob E) (S : Nat → Option (Nat × Nat)) (I : Nat → Nat → Int32) (V : Nat → Nat → Option Nat) (J : Nat → Nat → Int64) (N : Nat) (g t m w l s r : Nat) (hM : MdSh S V g) (hR : MrSh S V g) (hT : MtSh S V t) (hm : I t 0 = nI m) (hm6 : m ≤ 16) (hw : dWeak I t m = some w) (hl : I t 6 = nI l) (hl12 : l < 12) (hs : s < 2000) (hr : r < 108) (ht : I (g + 23) r = nI (mTc I g r)) (ht4 : mTc I g r ≤ 4) : Ct E yX13_holds cX13_holds 7 (some .boolean) (rmL 3) [.ref g, .ref t, .int (nI r), .int (nI s)] (S, I, V, J, N) (fun v w' => v = some (.int (bI (mHol I g t m w l s r (mTc I g r)))) ∧ w' = (S, I, V, J, N)) := by
  refine Ct.start GE (by decide) rfl (Nat.le_of_ble_eq_true rfl) (fun M X => ?_)
  have X : Cx E M RX13 cX13_holds 7 (rmL 3) (some .boolean) "holds" := X
  refine r_loc (L' := [some (.ref g), some (.ref t), some (.int (nI r)), some (.int (nI s)), none, none, none]) rfl ?_
  obtain ⟨hs0, v8, v9, v10, v11, v16, v17, v18, v19, v20, s1, s2, s3, s4, s5, s6, s7, s8, hOt, hTe, hKt⟩ := id hM
  obtain ⟨v21, v22, v32, v33, v34, v35, v36, v37, v39, s19, s20, s21, s22, s23, s24, s25, s26, s27⟩ := id hR
  have H : ∀ j, j ≤ mTc I g r → ∀ x6, G E M 0 0 (qQ E M (rmL 3) (fun v w' => v = some (.int (bI (mHol I g t m w l s r (mTc I g r)))) ∧ w' = (S, I, V, J, N))) 8 [some (.ref g), some (.ref t), some (.int (nI r)), some (.int (nI s)), some (.int (bI (mHol I g t m w l s r j))), some (.int (nI (4 * r + j))), x6] [] (S, I, V, J, N) := by
    refine loopN (mTc I g r) (fun j hj ih => ?_)
    intro x6
    have hst : okst [some (.ref g), some (.ref t), some (.int (nI r)), some (.int (nI s)), some (.int (bI (mHol I g t m w l s r j))), some (.int (nI (4 * r + j))), x6] 6 = true := rfl
    have e85 : ∀ y x6, y = bI (mHol I g t m w l s r (j + 1)) → j < mTc I g r → G E M 0 0 (qQ E M (rmL 3) (fun v w' => v = some (.int (bI (mHol I g t m w l s r (mTc I g r)))) ∧ w' = (S, I, V, J, N))) 85 [some (.ref g), some (.ref t), some (.int (nI r)), some (.int (nI s)), some (.int (bI (mHol I g t m w l s r j))), some (.int (nI (4 * r + j))), x6] [.int y] (S, I, V, J, N) := by
      intro y x6 hy hjl
      rw [hy]
      refine r_istore X dX13_holds_85 (by decide) rfl ?_
      first | refine r_iincN X dX13_holds_87 rfl (by decide) rfl ?_ | refine r_iinc X dX13_holds_87 rfl rfl (by decide) rfl ?_
      refine r_goto (tgt := 8) X dX13_holds_90 (by decide) ?_
      exact ih (by omega) _
    refine r_iload X dX13_holds_8 rfl ?_
    refine r_iconst (v := 4) X dX13_holds_10 (by decide) ?_
    refine r_iload_n X dX13_holds_11 rfl rfl ?_
    refine r_imul X dX13_holds_12 ?_
    refine r_topi (nI (4 * r)) (pk_mul 4 r) ?_
    refine r_aload_n X dX13_holds_13 rfl rfl ?_
    refine r_getR X dX13_holds_14 fX13_75 (by assumption) (by assumption) ?_
    refine r_iload_n X dX13_holds_17 rfl rfl ?_
    refine r_ialdN X dX13_holds_18 (by assumption) (by omega) (by omega) ht ?_
    refine r_iadd X dX13_holds_19 ?_
    refine r_topi (nI (4 * r + mTc I g r)) (nI_add _ _) ?_
    refine r_icmpN_ge (tgt := 93) X dX13_holds_20 (by decide) (by omega) (by omega) (fun h20 => ?_) (fun h20 => ?_)
    · skip
      refine r_iload X dX13_holds_93 rfl ?_
      refine r_ireturn X dX13_holds_95 (narbI _) (by first | omega | decide | (simp only [rmL, rmA]; omega)) (by first | omega | decide | (simp only [rmL, rmA]; omega)) ?_
      obtain rfl : j = mTc I g r := by omega
      exact ⟨rfl, rfl⟩
    · skip
      refine r_aload_n X dX13_holds_23 rfl rfl ?_
      refine r_aload_n X dX13_holds_24 rfl rfl ?_
      refine r_aload_n X dX13_holds_25 rfl rfl ?_
      refine r_getR X dX13_holds_26 fX13_78 (by assumption) (by assumption) ?_
      refine r_iload X dX13_holds_29 rfl ?_
      refine r_ialdN X dX13_holds_31 (by assumption) (by omega) (by omega) (by first | assumption | rfl) ?_
      refine r_iload_n X dX13_holds_32 rfl rfl ?_
      refine q_callV X dX13_holds_33 mX13_329 cwX13_valueOf (c_mVl GE S I V J N g t m w l s _ hM hT hm hm6 hw hl hl12 hs) rfl (by assumption) rfl rfl rfl (Nat.le_of_ble_eq_true rfl) ⟨Nat.le_of_ble_eq_true rfl, Nat.le_of_ble_eq_true rfl⟩ ⟨(by first | omega | decide | (simp only [rmL, rmA]; omega)), (by first | omega | decide | (simp only [rmL, rmA]; omega))⟩ ?_
      rintro _ _ ⟨rfl, rfl⟩
      refine r_istore X dX13_holds_36 (by decide) rfl ?_
      refine r_iload X dX13_holds_38 rfl ?_
      refine r_if_eq (tgt := 84) X dX13_holds_40 (by decide) (fun h40 => ?_) (fun h40 => ?_)
      · skip
        refine r_iconst (v := 0) X dX13_holds_84 (by decide) ?_
        first
          | exact e85 0 _ (by rw [mHol, bI_0 h40]; rfl) (by omega)
          | exact e85 1 _ (by rw [mHol, bI_1 h40, mTst, if_pos h50, decide_eq_true (Int32.not_le.mp h77)]; rfl) (by omega)
          | exact e85 0 _ (by rw [mHol, bI_1 h40, mTst, if_pos h50, decide_eq_false (Int32.not_lt.mpr h77)]; rfl) (by omega)
          | exact e85 1 _ (by rw [mHol, bI_1 h40, mTst, if_neg h50, decide_eq_true (Int32.not_le.mp h62)]; rfl) (by omega)
          | exact e85 0 _ (by rw [mHol, bI_1 h40, mTst, if_neg h50, decide_eq_false (Int32.not_lt.mpr h62)]; rfl) (by omega)
      · skip
        refine r_aload_n X dX13_holds_43 rfl rfl ?_
        refine r_getR X dX13_holds_44 fX13_84 (by assumption) (by assumption) ?_
        refine r_iload X dX13_holds_47 rfl ?_
        refine r_zaldN X dX13_holds_49 (by assumption) (by omega) (by omega) (by first | assumption | rfl) ?_
        refine r_if_eq (tgt := 68) X dX13_holds_50 (by decide) (fun h50 => ?_) (fun h50 => ?_)
        · skip
          refine r_iload X dX13_holds_68 rfl ?_
          refine r_aload_n X dX13_holds_70 rfl rfl ?_
          refine r_getR X dX13_holds_71 fX13_81 (by assumption) (by assumption) ?_
          refine r_iload X dX13_holds_74 rfl ?_
          refine r_ialdN X dX13_holds_76 (by assumption) (by omega) (by omega) (by first | assumption | rfl) ?_
          refine r_icmp_le (tgt := 84) X dX13_holds_77 (by decide) (fun h77 => ?_) (fun h77 => ?_)
          · skip
            refine r_iconst (v := 0) X dX13_holds_84 (by decide) ?_
            first
              | exact e85 0 _ (by rw [mHol, bI_0 h40]; rfl) (by omega)
              | exact e85 1 _ (by rw [mHol, bI_1 h40, mTst, if_pos h50, decide_eq_true (Int32.not_le.mp h77)]; rfl) (by omega)
              | exact e85 0 _ (by rw [mHol, bI_1 h40, mTst, if_pos h50, decide_eq_false (Int32.not_lt.mpr h77)]; rfl) (by omega)
              | exact e85 1 _ (by rw [mHol, bI_1 h40, mTst, if_neg h50, decide_eq_true (Int32.not_le.mp h62)]; rfl) (by omega)
              | exact e85 0 _ (by rw [mHol, bI_1 h40, mTst, if_neg h50, decide_eq_false (Int32.not_lt.mpr h62)]; rfl) (by omega)
          · skip
            refine r_iconst (v := 1) X dX13_holds_80 (by decide) ?_
            refine r_goto (tgt := 85) X dX13_holds_81 (by decide) ?_
            first
              | exact e85 0 _ (by rw [mHol, bI_0 h40]; rfl) (by omega)
              | exact e85 1 _ (by rw [mHol, bI_1 h40, mTst, if_pos h50, decide_eq_true (Int32.not_le.mp h77)]; rfl) (by omega)
              | exact e85 0 _ (by rw [mHol, bI_1 h40, mTst, if_pos h50, decide_eq_false (Int32.not_lt.mpr h77)]; rfl) (by omega)
              | exact e85 1 _ (by rw [mHol, bI_1 h40, mTst, if_neg h50, decide_eq_true (Int32.not_le.mp h62)]; rfl) (by omega)
              | exact e85 0 _ (by rw [mHol, bI_1 h40, mTst, if_neg h50, decide_eq_false (Int32.not_lt.mpr h62)]; rfl) (by omega)
        · skip
          refine r_iload X dX13_holds_53 rfl ?_
          refine r_aload_n X dX13_holds_55 rfl rfl ?_
          refine r_getR X dX13_holds_56 fX13_81 (by assumption) (by assumption) ?_
          refine r_iload X dX13_holds_59 rfl ?_
          refine r_ialdN X dX13_holds_61 (by assumption) (by omega) (by omega) (by first | assumption | rfl) ?_
          refine r_icmp_ge (tgt := 84) X dX13_holds_62 (by decide) (fun h62 => ?_) (fun h62 => ?_)
          · skip
            refine r_iconst (v := 0) X dX13_holds_84 (by decide) ?_
            first
              | exact e85 0 _ (by rw [mHol, bI_0 h40]; rfl) (by omega)
              | exact e85 1 _ (by rw [mHol, bI_1 h40, mTst, if_pos h50, decide_eq_true (Int32.not_le.mp h77)]; rfl) (by omega)
              | exact e85 0 _ (by rw [mHol, bI_1 h40, mTst, if_pos h50, decide_eq_false (Int32.not_lt.mpr h77)]; rfl) (by omega)
              | exact e85 1 _ (by rw [mHol, bI_1 h40, mTst, if_neg h50, decide_eq_true (Int32.not_le.mp h62)]; rfl) (by omega)
              | exact e85 0 _ (by rw [mHol, bI_1 h40, mTst, if_neg h50, decide_eq_false (Int32.not_lt.mpr h62)]; rfl) (by omega)
          · skip
            refine r_goto (tgt := 80) X dX13_holds_65 (by decide) ?_
            refine r_iconst (v := 1) X dX13_holds_80 (by decide) ?_
            refine r_goto (tgt := 85) X dX13_holds_81 (by decide) ?_
            first
              | exact e85 0 _ (by rw [mHol, bI_0 h40]; rfl) (by omega)
              | exact e85 1 _ (by rw [mHol, bI_1 h40, mTst, if_pos h50, decide_eq_true (Int32.not_le.mp h77)]; rfl) (by omega)
              | exact e85 0 _ (by rw [mHol, bI_1 h40, mTst, if_pos h50, decide_eq_false (Int32.not_lt.mpr h77)]; rfl) (by omega)
              | exact e85 1 _ (by rw [mHol, bI_1 h40, mTst, if_neg h50, decide_eq_true (Int32.not_le.mp h62)]; rfl) (by omega)
              | exact e85 0 _ (by rw [mHol, bI_1 h40, mTst, if_neg h50, decide_eq_false (Int32.not_lt.mpr h62)]; rfl) (by omega)
  refine r_iconst (v := 1) X dX13_holds_0 (by decide) ?_
  refine r_istore X dX13_holds_1 (by decide) rfl ?_
  refine r_iconst (v := 4) X dX13_holds_3 (by decide) ?_
  refine r_iload_n X dX13_holds_4 rfl rfl ?_
  refine r_imul X dX13_holds_5 ?_
  refine r_topi (nI (4 * r)) (pk_mul 4 r) ?_
  refine r_istore X dX13_holds_6 (by decide) rfl ?_
  exact H 0 (by omega) none
