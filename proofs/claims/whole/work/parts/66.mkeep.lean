/-! ===== the reference: keep, back ===== -/
abbrev kt (g i : Nat) : Nat := g + 38 + 20 * i
theorem kt_e (g i : Nat) : kt g i = g + 38 + 20 * i := rfl
theorem cp2_a {I : Mem} {a b c d j x k : Nat} (h1 : x ≠ a) (h2 : x ≠ c) : cp2 I a b c d j x k = I x k := by rw [cp2, cp1_a h2, cp1_a h1]
theorem cp3_a {I : Mem} {a b c d e f j x k : Nat} (h1 : x ≠ a) (h2 : x ≠ c) (h3 : x ≠ e) : cp3 I a b c d e f j x k = I x k := by rw [cp3, cp1_a h3, cp2_a h1 h2]
theorem mBec0_a {I : Mem} {t u x k : Nat} (h : x < t ∨ t + 9 < x) : mBec0 I t u x k = I x k := by
  unfold mBec0
  rw [up2_a (by omega), up2_a (by omega), up2_a (by omega), up2_a (by omega), up2_a (by omega), up2_a (by omega), up2_a (by omega), up2_a (by omega), up2_a (by omega), up2_a (by omega)]
  exact mBegin_a h
theorem mBec_a {I : Mem} {t u sg gp x k : Nat} (h : x < t ∨ t + 9 < x) : mBec I t u sg gp x k = I x k := by
  unfold mBec mBec3 mBec2 mBec1
  rw [cp2_a (by omega) (by omega), cp2_a (by omega) (by omega), cp2_a (by omega) (by omega), cp3_a (by omega) (by omega) (by omega), mBec0_a h]
def mBc (I : Mem) (t u : Nat) : Mem := mBec I t u (mSg I u) (mG I u)
/-- the first j kept teams as the teams -/
def mKT (I : Mem) (g : Nat) : Nat → Mem
  | 0 => I
  | j + 1 => mBc (mKT I g j) (kt g j) (mt g j)
def mBT (I : Mem) (g : Nat) : Nat → Mem
  | 0 => I
  | j + 1 => mBc (mBT I g j) (mt g j) (kt g j)
theorem mKT_a {I : Mem} {g x k : Nat} : ∀ j, (∀ i, i < j → x < kt g i ∨ kt g i + 9 < x) → mKT I g j x k = I x k
  | 0, _ => rfl
  | j + 1, h => by rw [mKT, mBc, mBec_a (h j (by omega))]; exact mKT_a j (fun i hi => h i (by omega))
theorem mBT_a {I : Mem} {g x k : Nat} : ∀ j, (∀ i, i < j → x < mt g i ∨ mt g i + 9 < x) → mBT I g j x k = I x k
  | 0, _ => rfl
  | j + 1, h => by rw [mBT, mBc, mBec_a (h j (by omega))]; exact mBT_a j (fun i hi => h i (by omega))
def mK0 (I : Mem) (g : Nat) : Mem := up2 (up2 (up2 (up2 I g 12 (I g 4)) g 13 (I g 5)) g 14 (I g 6)) g 15 (I g 7)
def mK1 (I : Mem) (g : Nat) : Mem := cp2 (mK0 I g) (g + 5) (g + 1) (g + 6) (g + 2) 12
def mK2 (I : Mem) (g : Nat) : Mem := cp1 (mK1 I g) (g + 7) (g + 3) 334
def mKeep (I : Mem) (g c : Nat) : Mem := mKT (mK2 I g) g c
theorem mK2_a {I : Mem} {g x k : Nat} (h : x < g ∨ g + 7 < x) : mK2 I g x k = I x k := by
  unfold mK2 mK1 mK0
  rw [cp1_a (by omega), cp2_a (by omega) (by omega), up2_a (by omega), up2_a (by omega), up2_a (by omega), up2_a (by omega)]
theorem mK2_g {I : Mem} {g k : Nat} (h : k < 12 ∨ 15 < k) : mK2 I g g k = I g k := by
  unfold mK2 mK1 mK0
  rw [cp1_a (by omega), cp2_a (by omega) (by omega), up2_k (by omega), up2_k (by omega), up2_k (by omega), up2_k (by omega)]
set_option maxHeartbeats 2000000 in
set_option maxRecDepth 20000 in
/-- SledHouseModel.keep -/
theorem c_mKeep {E : Ev} (GE : Glob E) (S : Nat → Option (Nat × Nat)) (I : Nat → Nat → Int32) (V : Nat → Nat → Option Nat) (J : Nat → Nat → Int64) (N : Nat) (g c : Nat) (hM : MdSh S V g) (h0 : I g 0 = 0) (hc : I g 5 = nI c) (hc6 : c ≤ 6) (hg : ∀ i, i < c → (I (mt g i) 11 = nI (mSg I (mt g i)) ∧ mSg I (mt g i) ≤ 2000) ∧ I (mt g i) 12 = nI (mG I (mt g i)) ∧ mG I (mt g i) ≤ 4) : Ct E yX13_keep cX13_keep 2 (some .boolean) (rmL 2) [.ref g] (S, I, V, J, N) (fun v w' => v = some (.int 1) ∧ w' = (S, mKeep I g c, V, J, N)) := by
  refine Ct.start GE (by decide) rfl (Nat.le_of_ble_eq_true rfl) (fun M X => ?_)
  have X : Cx E M RX13 cX13_keep 2 (rmL 2) (some .boolean) "keep" := X
  refine r_loc (L' := [some (.ref g), none]) rfl ?_
  obtain ⟨hs0, v8, v9, v10, v11, v16, v17, v18, v19, v20, s1, s2, s3, s4, s5, s6, s7, s8, hOt, hTe, hKt⟩ := id hM
  have H3 : ∀ j, j ≤ c → G E M 0 0 (qQ E M (rmL 2) (fun v w' => v = some (.int 1) ∧ w' = (S, mKeep I g c, V, J, N))) 104 [some (.ref g), some (.int (nI j))] [] (S, mKT (mK2 I g) g j, V, J, N) := by
    refine loopN c (fun j hj ih => ?_)
    have q5 : mKT (mK2 I g) g j g 5 = nI c := (mKT_a j (fun i _ => Or.inl (by have := kt_e g i; omega))).trans ((mK2_g (by omega)).trans hc)
    have eJ : mKT (mK2 I g) g (j + 1) = mBc (mKT (mK2 I g) g j) (kt g j) (mt g j) := rfl
    rw [eJ] at ih
    refine r_iload_n X dX13_keep_104 rfl rfl ?_
    refine r_aload_n X dX13_keep_105 rfl rfl ?_
    refine r_getI X dX13_keep_106 fX13_94 (by assumption) q5 ?_
    refine r_icmpN_ge (tgt := 133) X dX13_keep_109 (by decide) (by omega) (by omega) (fun h109 => ?_) (fun h109 => ?_)
    · skip
      refine r_iconst (v := 1) X dX13_keep_133 (by decide) ?_
      refine r_ireturn X dX13_keep_134 rfl (by first | omega | decide | (simp only [rmL, rmA]; omega)) (by first | omega | decide | (simp only [rmL, rmA]; omega)) ?_
      obtain rfl : j = c := by omega
      exact ⟨rfl, rfl⟩
    · skip
      have te1 := (hTe j (by omega)).1
      have hT := (hTe j (by omega)).2
      have ke1 := (hKt j (by omega)).1
      have hK := (hKt j (by omega)).2
      have m1 := mt_e g j
      have m2 := kt_e g j
      have ek : ∀ k, mKT (mK2 I g) g j (mt g j) k = I (mt g j) k := fun k => (mKT_a j (fun i _ => by have := kt_e g i; omega)).trans (mK2_a (by omega))
      have f1 : mSg (mKT (mK2 I g) g j) (mt g j) = mSg I (mt g j) := by rw [mSg, mSg, ek]
      have f2 : mG (mKT (mK2 I g) g j) (mt g j) = mG I (mt g j) := by rw [mG, mG, ek]
      obtain ⟨⟨g1, g2⟩, g3, g4⟩ := hg j (by omega)
      refine r_aload_n X dX13_keep_112 rfl rfl ?_
      refine r_getR X dX13_keep_113 fX13_50 (by assumption) (by assumption) ?_
      refine r_iload_n X dX13_keep_116 rfl rfl ?_
      refine r_aaldN X dX13_keep_117 (by assumption) (by decide) rfl (by omega) (by omega) (by assumption) ?_
      refine r_aload_n X dX13_keep_118 rfl rfl ?_
      refine r_getR X dX13_keep_119 fX13_34 (by assumption) (by assumption) ?_
      refine r_iload_n X dX13_keep_122 rfl rfl ?_
      refine r_aaldN X dX13_keep_123 (by assumption) (by decide) rfl (by omega) (by omega) (by assumption) ?_
      refine q_callV X dX13_keep_124 mX13_109 cwX12_become (c_mBecome GE S _ V J N (kt g j) (mt g j) (mSg (mKT (mK2 I g) g j) (mt g j)) (mG (mKT (mK2 I g) g j) (mt g j)) hK hT (by omega) (by rw [f1, ek]; exact g1) (by rw [f1]; exact g2) (by rw [f2, ek]; exact g3) (by rw [f2]; exact g4)) rfl (hK.1) rfl rfl rfl (Nat.le_of_ble_eq_true rfl) ⟨Nat.le_of_ble_eq_true rfl, Nat.le_of_ble_eq_true rfl⟩ ⟨(by first | omega | decide | (simp only [rmL, rmA]; omega)), (by first | omega | decide | (simp only [rmL, rmA]; omega))⟩ ?_
      rintro _ _ ⟨rfl, rfl⟩
      first | refine r_iincN X dX13_keep_127 rfl (by decide) rfl ?_ | refine r_iinc X dX13_keep_127 rfl rfl (by decide) rfl ?_
      refine r_goto (tgt := 104) X dX13_keep_130 (by decide) ?_
      exact ih (by omega)
  have H2 : ∀ j, j ≤ 334 → G E M 0 0 (qQ E M (rmL 2) (fun v w' => v = some (.int 1) ∧ w' = (S, mKeep I g c, V, J, N))) 77 [some (.ref g), some (.int (nI j))] [] (S, cp1 (mK1 I g) (g + 7) (g + 3) j, V, J, N) := by
    refine loopN 334 (fun j hj ih => ?_)
    refine r_iload_n X dX13_keep_77 rfl rfl ?_
    refine r_sipush (v := nI 334) X dX13_keep_78 (by decide) ?_
    refine r_icmpN_ge (tgt := 102) X dX13_keep_81 (by decide) (by omega) (by omega) (fun h81 => ?_) (fun h81 => ?_)
    · skip
      refine r_iconst (v := nI 0) X dX13_keep_102 (by decide) ?_
      refine r_istore_n X dX13_keep_103 rfl (by decide) rfl ?_
      obtain rfl : j = 334 := by omega
      exact H3 0 (by omega)
    · skip
      refine r_aload_n X dX13_keep_84 rfl rfl ?_
      refine r_getR X dX13_keep_85 fX13_47 (by assumption) (by assumption) ?_
      refine r_iload_n X dX13_keep_88 rfl rfl ?_
      refine r_aload_n X dX13_keep_89 rfl rfl ?_
      refine r_getR X dX13_keep_90 fX13_29 (by assumption) (by assumption) ?_
      refine r_iload_n X dX13_keep_93 rfl rfl ?_
      refine r_ialdN X dX13_keep_94 (by assumption) (by omega) (by omega) (by first | assumption | rfl) ?_
      refine r_iastN X dX13_keep_95 (by assumption) (by omega) (by omega) ?_
      first | refine r_iincN X dX13_keep_96 rfl (by decide) rfl ?_ | refine r_iinc X dX13_keep_96 rfl rfl (by decide) rfl ?_
      refine r_goto (tgt := 77) X dX13_keep_99 (by decide) ?_
      exact r_world (by rw [cp1_s _ _ _ _ (by omega)]) (ih (by omega))
  have H1 : ∀ j, j ≤ 12 → G E M 0 0 (qQ E M (rmL 2) (fun v w' => v = some (.int 1) ∧ w' = (S, mKeep I g c, V, J, N))) 39 [some (.ref g), some (.int (nI j))] [] (S, cp2 (mK0 I g) (g + 5) (g + 1) (g + 6) (g + 2) j, V, J, N) := by
    refine loopN 12 (fun j hj ih => ?_)
    refine r_iload_n X dX13_keep_39 rfl rfl ?_
    refine r_bipush (v := nI 12) X dX13_keep_40 (by decide) ?_
    refine r_icmpN_ge (tgt := 75) X dX13_keep_42 (by decide) (by omega) (by omega) (fun h42 => ?_) (fun h42 => ?_)
    · skip
      refine r_iconst (v := nI 0) X dX13_keep_75 (by decide) ?_
      refine r_istore_n X dX13_keep_76 rfl (by decide) rfl ?_
      obtain rfl : j = 12 := by omega
      exact r_world (by rw [cp1_0, mK1]) (H2 0 (by omega))
    · skip
      refine r_aload_n X dX13_keep_45 rfl rfl ?_
      refine r_getR X dX13_keep_46 fX13_41 (by assumption) (by assumption) ?_
      refine r_iload_n X dX13_keep_49 rfl rfl ?_
      refine r_aload_n X dX13_keep_50 rfl rfl ?_
      refine r_getR X dX13_keep_51 fX13_22 (by assumption) (by assumption) ?_
      refine r_iload_n X dX13_keep_54 rfl rfl ?_
      refine r_ialdN X dX13_keep_55 (by assumption) (by omega) (by omega) (by first | assumption | rfl) ?_
      refine r_iastN X dX13_keep_56 (by assumption) (by omega) (by omega) ?_
      refine r_aload_n X dX13_keep_57 rfl rfl ?_
      refine r_getR X dX13_keep_58 fX13_44 (by assumption) (by assumption) ?_
      refine r_iload_n X dX13_keep_61 rfl rfl ?_
      refine r_aload_n X dX13_keep_62 rfl rfl ?_
      refine r_getR X dX13_keep_63 fX13_26 (by assumption) (by assumption) ?_
      refine r_iload_n X dX13_keep_66 rfl rfl ?_
      refine r_ialdN X dX13_keep_67 (by assumption) (by omega) (by omega) (by first | assumption | rfl) ?_
      refine r_iastN X dX13_keep_68 (by assumption) (by omega) (by omega) ?_
      first | refine r_iincN X dX13_keep_69 rfl (by decide) rfl ?_ | refine r_iinc X dX13_keep_69 rfl rfl (by decide) rfl ?_
      refine r_goto (tgt := 39) X dX13_keep_72 (by decide) ?_
      exact r_world (by rw [cp2_s _ _ _ _ _ _ (by omega) (by omega) (by omega) (by omega) (by omega)]) (ih (by omega))
  refine r_aload_n X dX13_keep_0 rfl rfl ?_
  refine r_iconst (v := 0) X dX13_keep_1 (by decide) ?_
  refine r_putI X dX13_keep_2 fX13_1 wX13_1 (by assumption) rfl rfl ?_
  refine r_world (w' := (S, I, V, J, N)) (by rw [up2_id I h0]) ?_
  refine r_aload_n X dX13_keep_5 rfl rfl ?_
  refine r_aload_n X dX13_keep_6 rfl rfl ?_
  refine r_getI X dX13_keep_7 fX13_91 (by assumption) rfl ?_
  refine r_putI X dX13_keep_10 fX13_38 wX13_38 (by assumption) rfl rfl ?_
  refine r_aload_n X dX13_keep_13 rfl rfl ?_
  refine r_aload_n X dX13_keep_14 rfl rfl ?_
  refine r_getI X dX13_keep_15 fX13_94 (by assumption) (up2_k (by decide)) ?_
  refine r_putI X dX13_keep_18 fX13_97 wX13_97 (by assumption) rfl rfl ?_
  refine r_aload_n X dX13_keep_21 rfl rfl ?_
  refine r_aload_n X dX13_keep_22 rfl rfl ?_
  refine r_getI X dX13_keep_23 fX13_100 (by assumption) ((up2_k (by decide)).trans (up2_k (by decide))) ?_
  refine r_putI X dX13_keep_26 fX13_103 wX13_103 (by assumption) rfl rfl ?_
  refine r_aload_n X dX13_keep_29 rfl rfl ?_
  refine r_aload_n X dX13_keep_30 rfl rfl ?_
  refine r_getI X dX13_keep_31 fX13_19 (by assumption) ((up2_k (by decide)).trans ((up2_k (by decide)).trans (up2_k (by decide)))) ?_
  refine r_putI X dX13_keep_34 fX13_106 wX13_106 (by assumption) rfl rfl ?_
  refine r_iconst (v := nI 0) X dX13_keep_37 (by decide) ?_
  refine r_istore_n X dX13_keep_38 rfl (by decide) rfl ?_
  exact r_world (by rw [cp2_0, mK0]) (H1 0 (by omega))
def mB0 (I : Mem) (g : Nat) : Mem := up2 (up2 (up2 (up2 I g 4 (I g 12)) g 5 (I g 13)) g 6 (I g 14)) g 7 (I g 15)
def mB1 (I : Mem) (g : Nat) : Mem := cp2 (mB0 I g) (g + 1) (g + 5) (g + 2) (g + 6) 12
def mB2 (I : Mem) (g : Nat) : Mem := cp1 (mB1 I g) (g + 3) (g + 7) 334
def mBack (I : Mem) (g c : Nat) : Int32 × Mem := if I g 12 = -1 then (0, mTrb I g 1) else (1, mTrb (mBT (mB2 I g) g c) g 0)
theorem mB2_a {I : Mem} {g x k : Nat} (h : x < g ∨ g + 3 < x) : mB2 I g x k = I x k := by
  unfold mB2 mB1 mB0
  rw [cp1_a (by omega), cp2_a (by omega) (by omega), up2_a (by omega), up2_a (by omega), up2_a (by omega), up2_a (by omega)]
theorem mB2_g {I : Mem} {g k : Nat} (h : k < 4 ∨ 7 < k) : mB2 I g g k = I g k := by
  unfold mB2 mB1 mB0
  rw [cp1_a (by omega), cp2_a (by omega) (by omega), up2_k (by omega), up2_k (by omega), up2_k (by omega), up2_k (by omega)]
theorem mB2_5 {I : Mem} {g : Nat} : mB2 I g g 5 = I g 13 := by
  unfold mB2 mB1 mB0
  rw [cp1_a (by omega), cp2_a (by omega) (by omega), up2_k (by omega), up2_k (by omega), up2_same]
set_option maxHeartbeats 2000000 in
set_option maxRecDepth 20000 in
/-- SledHouseModel.back -/
theorem c_mBack {E : Ev} (GE : Glob E) (S : Nat → Option (Nat × Nat)) (I : Nat → Nat → Int32) (V : Nat → Nat → Option Nat) (J : Nat → Nat → Int64) (N : Nat) (g c : Nat) (hM : MdSh S V g) (h0 : I g 0 = 0) (hkc : ¬ I g 12 = -1 → I g 13 = nI c ∧ c ≤ 6 ∧ ∀ i, i < c → (I (kt g i) 11 = nI (mSg I (kt g i)) ∧ mSg I (kt g i) ≤ 2000) ∧ I (kt g i) 12 = nI (mG I (kt g i)) ∧ mG I (kt g i) ≤ 4) : Ct E yX13_back cX13_back 2 (some .boolean) (rmL 2) [.ref g] (S, I, V, J, N) (fun v w' => v = some (.int (mBack I g c).1) ∧ w' = (S, (mBack I g c).2, V, J, N)) := by
  refine Ct.start GE (by decide) rfl (Nat.le_of_ble_eq_true rfl) (fun M X => ?_)
  have X : Cx E M RX13 cX13_back 2 (rmL 2) (some .boolean) "back" := X
  refine r_loc (L' := [some (.ref g), none]) rfl ?_
  obtain ⟨hs0, v8, v9, v10, v11, v16, v17, v18, v19, v20, s1, s2, s3, s4, s5, s6, s7, s8, hOt, hTe, hKt⟩ := id hM
  rcases Classical.em (I g 12 = -1) with hk | hk
  · skip
    have eR : mBack I g c = (0, mTrb I g 1) := by rw [mBack, if_pos hk]
    rw [eR]
    refine r_aload_n X dX13_back_0 rfl rfl ?_
    refine r_iconst (v := 0) X dX13_back_1 (by decide) ?_
    refine r_putI X dX13_back_2 fX13_1 wX13_1 (by assumption) rfl rfl ?_
    refine r_world (w' := (S, I, V, J, N)) (by rw [up2_id I h0]) ?_
    refine r_aload_n X dX13_back_5 rfl rfl ?_
    refine r_getI X dX13_back_6 fX13_38 (by assumption) hk ?_
    refine r_iconst (v := -1) X dX13_back_9 (by decide) ?_
    refine r_icmp_ne (tgt := 19) X dX13_back_10 (by decide) (fun h10 => ?_) (fun h10 => ?_)
    · skip
      exact absurd rfl h10
    · skip
      refine r_aload_n X dX13_back_13 rfl rfl ?_
      refine r_iconst (v := 1) X dX13_back_14 (by decide) ?_
      refine q_callV X dX13_back_15 mX13_113 cwX13_denied (c_mDenied GE S I V J N g _ hs0) rfl (by assumption) rfl rfl rfl (Nat.le_of_ble_eq_true rfl) ⟨Nat.le_of_ble_eq_true rfl, Nat.le_of_ble_eq_true rfl⟩ ⟨(by first | omega | decide | (simp only [rmL, rmA]; omega)), (by first | omega | decide | (simp only [rmL, rmA]; omega))⟩ ?_
      rintro _ _ ⟨rfl, rfl⟩
      refine r_ireturn X dX13_back_18 rfl (by first | omega | decide | (simp only [rmL, rmA]; omega)) (by first | omega | decide | (simp only [rmL, rmA]; omega)) ?_
      exact ⟨rfl, rfl⟩
  · skip
    obtain ⟨hc, hc6, hg⟩ := hkc hk
    have eR : mBack I g c = (1, mTrb (mBT (mB2 I g) g c) g 0) := by rw [mBack, if_neg hk]
    rw [eR]
    have H3 : ∀ j, j ≤ c → G E M 0 0 (qQ E M (rmL 2) (fun v w' => v = some (.int 1) ∧ w' = (S, mTrb (mBT (mB2 I g) g c) g 0, V, J, N))) 118 [some (.ref g), some (.int (nI j))] [] (S, mBT (mB2 I g) g j, V, J, N) := by
      refine loopN c (fun j hj ih => ?_)
      have q5 : mBT (mB2 I g) g j g 5 = nI c := (mBT_a j (fun i _ => Or.inl (by have := mt_e g i; omega))).trans (mB2_5.trans hc)
      have eJ : mBT (mB2 I g) g (j + 1) = mBc (mBT (mB2 I g) g j) (mt g j) (kt g j) := rfl
      rw [eJ] at ih
      refine r_iload_n X dX13_back_118 rfl rfl ?_
      refine r_aload_n X dX13_back_119 rfl rfl ?_
      refine r_getI X dX13_back_120 fX13_94 (by assumption) q5 ?_
      refine r_icmpN_ge (tgt := 147) X dX13_back_123 (by decide) (by omega) (by omega) (fun h123 => ?_) (fun h123 => ?_)
      · skip
        refine r_aload_n X dX13_back_147 rfl rfl ?_
        refine q_callV X dX13_back_148 mX13_117 cwX13_granted (c_mGranted GE S _ V J N g hs0) rfl (by assumption) rfl rfl rfl (Nat.le_of_ble_eq_true rfl) ⟨Nat.le_of_ble_eq_true rfl, Nat.le_of_ble_eq_true rfl⟩ ⟨(by first | omega | decide | (simp only [rmL, rmA]; omega)), (by first | omega | decide | (simp only [rmL, rmA]; omega))⟩ ?_
        rintro _ _ ⟨rfl, rfl⟩
        refine r_ireturn X dX13_back_151 rfl (by first | omega | decide | (simp only [rmL, rmA]; omega)) (by first | omega | decide | (simp only [rmL, rmA]; omega)) ?_
        obtain rfl : j = c := by omega
        exact ⟨rfl, rfl⟩
      · skip
        have te1 := (hTe j (by omega)).1
        have hT := (hTe j (by omega)).2
        have ke1 := (hKt j (by omega)).1
        have hK := (hKt j (by omega)).2
        have m1 := mt_e g j
        have m2 := kt_e g j
        have ek : ∀ k, mBT (mB2 I g) g j (kt g j) k = I (kt g j) k := fun k => (mBT_a j (fun i _ => by have := mt_e g i; omega)).trans (mB2_a (by omega))
        have f1 : mSg (mBT (mB2 I g) g j) (kt g j) = mSg I (kt g j) := by rw [mSg, mSg, ek]
        have f2 : mG (mBT (mB2 I g) g j) (kt g j) = mG I (kt g j) := by rw [mG, mG, ek]
        obtain ⟨⟨g1, g2⟩, g3, g4⟩ := hg j (by omega)
        refine r_aload_n X dX13_back_126 rfl rfl ?_
        refine r_getR X dX13_back_127 fX13_34 (by assumption) (by assumption) ?_
        refine r_iload_n X dX13_back_130 rfl rfl ?_
        refine r_aaldN X dX13_back_131 (by assumption) (by decide) rfl (by omega) (by omega) (by assumption) ?_
        refine r_aload_n X dX13_back_132 rfl rfl ?_
        refine r_getR X dX13_back_133 fX13_50 (by assumption) (by assumption) ?_
        refine r_iload_n X dX13_back_136 rfl rfl ?_
        refine r_aaldN X dX13_back_137 (by assumption) (by decide) rfl (by omega) (by omega) (by assumption) ?_
        refine q_callV X dX13_back_138 mX13_109 cwX12_become (c_mBecome GE S _ V J N (mt g j) (kt g j) (mSg (mBT (mB2 I g) g j) (kt g j)) (mG (mBT (mB2 I g) g j) (kt g j)) hT hK (by omega) (by rw [f1, ek]; exact g1) (by rw [f1]; exact g2) (by rw [f2, ek]; exact g3) (by rw [f2]; exact g4)) rfl (hT.1) rfl rfl rfl (Nat.le_of_ble_eq_true rfl) ⟨Nat.le_of_ble_eq_true rfl, Nat.le_of_ble_eq_true rfl⟩ ⟨(by first | omega | decide | (simp only [rmL, rmA]; omega)), (by first | omega | decide | (simp only [rmL, rmA]; omega))⟩ ?_
        rintro _ _ ⟨rfl, rfl⟩
        first | refine r_iincN X dX13_back_141 rfl (by decide) rfl ?_ | refine r_iinc X dX13_back_141 rfl rfl (by decide) rfl ?_
        refine r_goto (tgt := 118) X dX13_back_144 (by decide) ?_
        exact ih (by omega)
    have H2 : ∀ j, j ≤ 334 → G E M 0 0 (qQ E M (rmL 2) (fun v w' => v = some (.int 1) ∧ w' = (S, mTrb (mBT (mB2 I g) g c) g 0, V, J, N))) 91 [some (.ref g), some (.int (nI j))] [] (S, cp1 (mB1 I g) (g + 3) (g + 7) j, V, J, N) := by
      refine loopN 334 (fun j hj ih => ?_)
      refine r_iload_n X dX13_back_91 rfl rfl ?_
      refine r_sipush (v := nI 334) X dX13_back_92 (by decide) ?_
      refine r_icmpN_ge (tgt := 116) X dX13_back_95 (by decide) (by omega) (by omega) (fun h95 => ?_) (fun h95 => ?_)
      · skip
        refine r_iconst (v := nI 0) X dX13_back_116 (by decide) ?_
        refine r_istore_n X dX13_back_117 rfl (by decide) rfl ?_
        obtain rfl : j = 334 := by omega
        exact H3 0 (by omega)
      · skip
        refine r_aload_n X dX13_back_98 rfl rfl ?_
        refine r_getR X dX13_back_99 fX13_29 (by assumption) (by assumption) ?_
        refine r_iload_n X dX13_back_102 rfl rfl ?_
        refine r_aload_n X dX13_back_103 rfl rfl ?_
        refine r_getR X dX13_back_104 fX13_47 (by assumption) (by assumption) ?_
        refine r_iload_n X dX13_back_107 rfl rfl ?_
        refine r_ialdN X dX13_back_108 (by assumption) (by omega) (by omega) (by first | assumption | rfl) ?_
        refine r_iastN X dX13_back_109 (by assumption) (by omega) (by omega) ?_
        first | refine r_iincN X dX13_back_110 rfl (by decide) rfl ?_ | refine r_iinc X dX13_back_110 rfl rfl (by decide) rfl ?_
        refine r_goto (tgt := 91) X dX13_back_113 (by decide) ?_
        exact r_world (by rw [cp1_s _ _ _ _ (by omega)]) (ih (by omega))
    have H1 : ∀ j, j ≤ 12 → G E M 0 0 (qQ E M (rmL 2) (fun v w' => v = some (.int 1) ∧ w' = (S, mTrb (mBT (mB2 I g) g c) g 0, V, J, N))) 53 [some (.ref g), some (.int (nI j))] [] (S, cp2 (mB0 I g) (g + 1) (g + 5) (g + 2) (g + 6) j, V, J, N) := by
      refine loopN 12 (fun j hj ih => ?_)
      refine r_iload_n X dX13_back_53 rfl rfl ?_
      refine r_bipush (v := nI 12) X dX13_back_54 (by decide) ?_
      refine r_icmpN_ge (tgt := 89) X dX13_back_56 (by decide) (by omega) (by omega) (fun h56 => ?_) (fun h56 => ?_)
      · skip
        refine r_iconst (v := nI 0) X dX13_back_89 (by decide) ?_
        refine r_istore_n X dX13_back_90 rfl (by decide) rfl ?_
        obtain rfl : j = 12 := by omega
        exact r_world (by rw [cp1_0, mB1]) (H2 0 (by omega))
      · skip
        refine r_aload_n X dX13_back_59 rfl rfl ?_
        refine r_getR X dX13_back_60 fX13_22 (by assumption) (by assumption) ?_
        refine r_iload_n X dX13_back_63 rfl rfl ?_
        refine r_aload_n X dX13_back_64 rfl rfl ?_
        refine r_getR X dX13_back_65 fX13_41 (by assumption) (by assumption) ?_
        refine r_iload_n X dX13_back_68 rfl rfl ?_
        refine r_ialdN X dX13_back_69 (by assumption) (by omega) (by omega) (by first | assumption | rfl) ?_
        refine r_iastN X dX13_back_70 (by assumption) (by omega) (by omega) ?_
        refine r_aload_n X dX13_back_71 rfl rfl ?_
        refine r_getR X dX13_back_72 fX13_26 (by assumption) (by assumption) ?_
        refine r_iload_n X dX13_back_75 rfl rfl ?_
        refine r_aload_n X dX13_back_76 rfl rfl ?_
        refine r_getR X dX13_back_77 fX13_44 (by assumption) (by assumption) ?_
        refine r_iload_n X dX13_back_80 rfl rfl ?_
        refine r_ialdN X dX13_back_81 (by assumption) (by omega) (by omega) (by first | assumption | rfl) ?_
        refine r_iastN X dX13_back_82 (by assumption) (by omega) (by omega) ?_
        first | refine r_iincN X dX13_back_83 rfl (by decide) rfl ?_ | refine r_iinc X dX13_back_83 rfl rfl (by decide) rfl ?_
        refine r_goto (tgt := 53) X dX13_back_86 (by decide) ?_
        exact r_world (by rw [cp2_s _ _ _ _ _ _ (by omega) (by omega) (by omega) (by omega) (by omega)]) (ih (by omega))
    refine r_aload_n X dX13_back_0 rfl rfl ?_
    refine r_iconst (v := 0) X dX13_back_1 (by decide) ?_
    refine r_putI X dX13_back_2 fX13_1 wX13_1 (by assumption) rfl rfl ?_
    refine r_world (w' := (S, I, V, J, N)) (by rw [up2_id I h0]) ?_
    refine r_aload_n X dX13_back_5 rfl rfl ?_
    refine r_getI X dX13_back_6 fX13_38 (by assumption) rfl ?_
    refine r_iconst (v := -1) X dX13_back_9 (by decide) ?_
    refine r_icmp_ne (tgt := 19) X dX13_back_10 (by decide) (fun h10 => ?_) (fun h10 => ?_)
    · skip
      refine r_aload_n X dX13_back_19 rfl rfl ?_
      refine r_aload_n X dX13_back_20 rfl rfl ?_
      refine r_getI X dX13_back_21 fX13_38 (by assumption) rfl ?_
      refine r_putI X dX13_back_24 fX13_91 wX13_91 (by assumption) rfl rfl ?_
      refine r_aload_n X dX13_back_27 rfl rfl ?_
      refine r_aload_n X dX13_back_28 rfl rfl ?_
      refine r_getI X dX13_back_29 fX13_97 (by assumption) (up2_k (by decide)) ?_
      refine r_putI X dX13_back_32 fX13_94 wX13_94 (by assumption) rfl rfl ?_
      refine r_aload_n X dX13_back_35 rfl rfl ?_
      refine r_aload_n X dX13_back_36 rfl rfl ?_
      refine r_getI X dX13_back_37 fX13_103 (by assumption) ((up2_k (by decide)).trans (up2_k (by decide))) ?_
      refine r_putI X dX13_back_40 fX13_100 wX13_100 (by assumption) rfl rfl ?_
      refine r_aload_n X dX13_back_43 rfl rfl ?_
      refine r_aload_n X dX13_back_44 rfl rfl ?_
      refine r_getI X dX13_back_45 fX13_106 (by assumption) ((up2_k (by decide)).trans ((up2_k (by decide)).trans (up2_k (by decide)))) ?_
      refine r_putI X dX13_back_48 fX13_19 wX13_19 (by assumption) rfl rfl ?_
      refine r_iconst (v := nI 0) X dX13_back_51 (by decide) ?_
      refine r_istore_n X dX13_back_52 rfl (by decide) rfl ?_
      exact r_world (by rw [cp2_0, mB0]) (H1 0 (by omega))
    · skip
      exact absurd h10 hk
