/-! ===== SledHouse$Team: begin, copies, a step ===== -/
def tBegin (I : Mem) (t m : Nat) (load meals start plan : Int32) : Mem :=
  up2 (up2 (up2 (up2 (up2 (up2 (up2 (up2 (up2 (up2 (up2 (fillTo (fillTo (up2 (dBegin I (t + 1) m) (t + 5) 2 0) (t + 8) 13 (-1)) (t + 9) 13 (-1)) t 4 load) t 5 meals) t 6 start) t 7 plan) t 8 0) t 9 meals) t 10 0) t 11 0) t 12 0) t 13 0) t 14 (-1)
set_option maxHeartbeats 2000000 in
set_option maxRecDepth 20000 in
/-- SledHouse$Team.begin -/
theorem c_tBegin {E : Ev} (GE : Glob E) (S : Nat → Option (Nat × Nat)) (I : Nat → Nat → Int32) (V : Nat → Nat → Option Nat) (J : Nat → Nat → Int64) (N : Nat) (t m : Nat) (load meals start plan : Int32) (hT : TeamSh S V t) (hm6 : m ≤ 16) : Ct E yX8_begin cX8_begin 6 none (rmL 2) [.ref t, .int (nI m), .int load, .int meals, .int start, .int plan] (S, I, V, J, N) (fun v w' => v = none ∧ w' = (S, tBegin I t m load meals start plan, V, J, N)) := by
  refine Ct.start GE (by decide) rfl (Nat.le_of_ble_eq_true rfl) (fun M X => ?_)
  have X : Cx E M RX8 cX8_begin 6 (rmL 2) none "begin" := X
  refine r_loc (L' := [some (.ref t), some (.int (nI m)), some (.int load), some (.int meals), some (.int start), some (.int plan)]) rfl ?_
  obtain ⟨hs0, hv0, hv1, hv2, hv3, hD, hG, hs8, hs9⟩ := hT
  have hD0 := hD.1
  have hG0 := hG.1
  refine r_aload_n X dX8_begin_0 rfl rfl ?_
  refine r_getR X dX8_begin_1 fX8_12 (by assumption) (by assumption) ?_
  refine r_iload_n X dX8_begin_4 rfl rfl ?_
  refine q_callV X dX8_begin_5 mX8_66 cwX0_begin (c_dBegin GE S I V J N (t + 1) m hD hm6) rfl (by assumption) rfl rfl rfl (Nat.le_of_ble_eq_true rfl) ⟨by decide, by decide⟩ ⟨by first | omega | decide, by first | omega | decide⟩ ?_
  rintro _ _ ⟨rfl, rfl⟩
  refine r_aload_n X dX8_begin_8 rfl rfl ?_
  refine r_getR X dX8_begin_9 fX8_21 (by assumption) (by assumption) ?_
  refine r_iconst (v := 0) X dX8_begin_12 (by decide) ?_
  refine r_putI X dX8_begin_13 fX8_70 wX8_70 (by assumption) rfl rfl ?_
  refine r_aload_n X dX8_begin_16 rfl rfl ?_
  refine r_getR X dX8_begin_17 fX8_25 (by assumption) (by assumption) ?_
  refine r_iconst (v := -1) X dX8_begin_20 (by decide) ?_
  refine q_callS X dX8_begin_21 mX8_73 cwJ7_fill_53178 (c_fill GE S _ V J N (t + 8) 13 _ hs8 (by decide)) rfl rfl (Nat.le_of_ble_eq_true rfl) ⟨by decide, by decide⟩ ⟨by first | omega | decide, by first | omega | decide⟩ ?_
  rintro _ _ ⟨rfl, rfl⟩
  refine r_aload_n X dX8_begin_24 rfl rfl ?_
  refine r_getR X dX8_begin_25 fX8_29 (by assumption) (by assumption) ?_
  refine r_iconst (v := -1) X dX8_begin_28 (by decide) ?_
  refine q_callS X dX8_begin_29 mX8_73 cwJ7_fill_53178 (c_fill GE S _ V J N (t + 9) 13 _ hs9 (by decide)) rfl rfl (Nat.le_of_ble_eq_true rfl) ⟨by decide, by decide⟩ ⟨by first | omega | decide, by first | omega | decide⟩ ?_
  rintro _ _ ⟨rfl, rfl⟩
  refine r_aload_n X dX8_begin_32 rfl rfl ?_
  refine r_iload_n X dX8_begin_33 rfl rfl ?_
  refine r_putI X dX8_begin_34 fX8_32 wX8_32 (by assumption) rfl rfl ?_
  refine r_aload_n X dX8_begin_37 rfl rfl ?_
  refine r_iload_n X dX8_begin_38 rfl rfl ?_
  refine r_putI X dX8_begin_39 fX8_36 wX8_36 (by assumption) rfl rfl ?_
  refine r_aload_n X dX8_begin_42 rfl rfl ?_
  refine r_iload X dX8_begin_43 rfl ?_
  refine r_putI X dX8_begin_45 fX8_39 wX8_39 (by assumption) rfl rfl ?_
  refine r_aload_n X dX8_begin_48 rfl rfl ?_
  refine r_iload X dX8_begin_49 rfl ?_
  refine r_putI X dX8_begin_51 fX8_42 wX8_42 (by assumption) rfl rfl ?_
  refine r_aload_n X dX8_begin_54 rfl rfl ?_
  refine r_iconst (v := 0) X dX8_begin_55 (by decide) ?_
  refine r_putI X dX8_begin_56 fX8_45 wX8_45 (by assumption) rfl rfl ?_
  refine r_aload_n X dX8_begin_59 rfl rfl ?_
  refine r_iload_n X dX8_begin_60 rfl rfl ?_
  refine r_putI X dX8_begin_61 fX8_48 wX8_48 (by assumption) rfl rfl ?_
  refine r_aload_n X dX8_begin_64 rfl rfl ?_
  refine r_iconst (v := 0) X dX8_begin_65 (by decide) ?_
  refine r_putI X dX8_begin_66 fX8_51 wX8_51 (by assumption) rfl rfl ?_
  refine r_aload_n X dX8_begin_69 rfl rfl ?_
  refine r_iconst (v := 0) X dX8_begin_70 (by decide) ?_
  refine r_putI X dX8_begin_71 fX8_54 wX8_54 (by assumption) rfl rfl ?_
  refine r_aload_n X dX8_begin_74 rfl rfl ?_
  refine r_iconst (v := 0) X dX8_begin_75 (by decide) ?_
  refine r_putI X dX8_begin_76 fX8_57 wX8_57 (by assumption) rfl rfl ?_
  refine r_aload_n X dX8_begin_79 rfl rfl ?_
  refine r_iconst (v := 0) X dX8_begin_80 (by decide) ?_
  refine r_putI X dX8_begin_81 fX8_60 wX8_60 (by assumption) rfl rfl ?_
  refine r_aload_n X dX8_begin_84 rfl rfl ?_
  refine r_iconst (v := -1) X dX8_begin_85 (by decide) ?_
  refine r_putI X dX8_begin_86 fX8_63 wX8_63 (by assumption) rfl rfl ?_
  refine r_return X dX8_begin_89 (by first | omega | decide) (by first | omega | decide) ?_
  exact ⟨rfl, rfl⟩
set_option maxHeartbeats 2000000 in
set_option maxRecDepth 20000 in
/-- SledHouse$Team.beginAgain -/
theorem c_tAgain {E : Ev} (GE : Glob E) (S : Nat → Option (Nat × Nat)) (I : Nat → Nat → Int32) (V : Nat → Nat → Option Nat) (J : Nat → Nat → Int64) (N : Nat) (t u m : Nat) (plan : Int32) (hT : TeamSh S V t) (hU : TeamSh S V u) (hm : I (t + 1) 3 = nI m) (hm6 : m ≤ 16) : Ct E yX8_beginAgain cX8_beginAgain 3 none (rmL 3) [.ref t, .ref u, .int plan] (S, I, V, J, N) (fun v w' => v = none ∧ w' = (S, tBegin I u m (I t 4) (I t 5) (I t 6) plan, V, J, N)) := by
  refine Ct.start GE (by decide) rfl (Nat.le_of_ble_eq_true rfl) (fun M X => ?_)
  have X : Cx E M RX8 cX8_beginAgain 3 (rmL 3) none "beginAgain" := X
  refine r_loc (L' := [some (.ref t), some (.ref u), some (.int plan)]) rfl ?_
  obtain ⟨hs0, hv0, hv1, hv2, hv3, hD, hG, hs8, hs9⟩ := hT
  have hD0 := hD.1
  have hU0 := hU.1
  refine r_aload_n X dX8_beginAgain_0 rfl rfl ?_
  refine r_aload_n X dX8_beginAgain_1 rfl rfl ?_
  refine r_getR X dX8_beginAgain_2 fX8_12 (by assumption) (by assumption) ?_
  refine r_getI X dX8_beginAgain_5 fX8_79 (by assumption) (by first | assumption | rfl) ?_
  refine r_aload_n X dX8_beginAgain_8 rfl rfl ?_
  refine r_getI X dX8_beginAgain_9 fX8_32 (by assumption) (by first | assumption | rfl) ?_
  refine r_aload_n X dX8_beginAgain_12 rfl rfl ?_
  refine r_getI X dX8_beginAgain_13 fX8_36 (by assumption) (by first | assumption | rfl) ?_
  refine r_aload_n X dX8_beginAgain_16 rfl rfl ?_
  refine r_getI X dX8_beginAgain_17 fX8_39 (by assumption) (by first | assumption | rfl) ?_
  refine r_iload_n X dX8_beginAgain_20 rfl rfl ?_
  refine q_callV X dX8_beginAgain_21 mX8_80 cwX8_begin (c_tBegin GE S I V J N u m _ _ _ _ hU hm6) rfl (by assumption) rfl rfl rfl (Nat.le_of_ble_eq_true rfl) ⟨by decide, by decide⟩ ⟨by first | omega | decide, by first | omega | decide⟩ ?_
  rintro _ _ ⟨rfl, rfl⟩
  refine r_return X dX8_beginAgain_24 (by first | omega | decide) (by first | omega | decide) ?_
  exact ⟨rfl, rfl⟩
/-- team t as team e is -/
def tCopy (I : Mem) (t e : Nat) : Mem := fun b k =>
  if b = t ∧ 4 ≤ k ∧ k ≤ 14 then I e k else if b = t + 8 ∧ k < 13 then I (e + 8) k else if b = t + 9 ∧ k < 13 then I (e + 9) k else gCopy (dCopy I (t + 1) (e + 1)) (t + 5) (e + 5) b k
theorem gCopy_a {I : Mem} {g e b k : Nat} (h0 : b ≠ g) (h1 : b ≠ g + 1) (h2 : b ≠ g + 2) : gCopy I g e b k = I b k := by simp [gCopy, h0, h1, h2]
theorem dCopy_a {I : Mem} {d e b k : Nat} (h0 : b ≠ d) (h1 : b ≠ d + 1) (h2 : b ≠ d + 2) (h3 : b ≠ d + 3) : dCopy I d e b k = I b k := by simp [dCopy, h0, h1, h2, h3]
theorem tCopy_k {I : Mem} {t e k : Nat} (h4 : 4 ≤ k) (h14 : k ≤ 14) : tCopy I t e t k = I e k := by simp [tCopy, h4, h14]
theorem tCopy_eq (I : Mem) (t e : Nat) (hne : e + 9 < t ∨ t + 9 < e) : up2 (up2 (up2 (up2 (up2 (up2 (up2 (up2 (up2 (up2 (up2 (cpyI (cpyI (gCopy (dCopy I (t + 1) (e + 1)) (t + 5) (e + 5)) (e + 8) (t + 8) 0 0 13) (e + 9) (t + 9) 0 0 13) t 4 (I e 4)) t 5 (I e 5)) t 6 (I e 6)) t 7 (I e 7)) t 8 (I e 8)) t 9 (I e 9)) t 10 (I e 10)) t 11 (I e 11)) t 12 (I e 12)) t 13 (I e 13)) t 14 (I e 14) = tCopy I t e := by
  funext b k
  by_cases h0 : b = t
  · subst h0
    by_cases hk : 4 ≤ k ∧ k ≤ 14
    · rw [tCopy_k hk.1 hk.2]
      have : k = 4 ∨ k = 5 ∨ k = 6 ∨ k = 7 ∨ k = 8 ∨ k = 9 ∨ k = 10 ∨ k = 11 ∨ k = 12 ∨ k = 13 ∨ k = 14 := by omega
      rcases this with rfl | rfl | rfl | rfl | rfl | rfl | rfl | rfl | rfl | rfl | rfl <;> simp [up2]
    · have e1 : ∀ j, 4 ≤ j → j ≤ 14 → ¬ k = j := fun j a b q => hk (by omega)
      simp only [up2, true_and]
      rw [if_neg (by omega), if_neg (by omega), if_neg (by omega), if_neg (by omega), if_neg (by omega), if_neg (by omega), if_neg (by omega), if_neg (by omega), if_neg (by omega), if_neg (by omega), if_neg (by omega)]
      rw [cpyI_a (by omega), cpyI_a (by omega)]
      unfold tCopy
      rw [if_neg (by omega), if_neg (by omega), if_neg (by omega)]
  · simp only [up2, h0, false_and, if_false]
    unfold tCopy
    rw [if_neg (by omega)]
    by_cases h8 : b = t + 8
    · subst h8
      rw [cpyI_a (by omega)]
      by_cases hk : k < 13
      · rw [if_pos ⟨rfl, hk⟩]
        simp only [cpyI, true_and, Nat.zero_le, Nat.zero_add, hk, if_true, Nat.sub_zero]
        rw [gCopy_a (by omega) (by omega) (by omega), dCopy_a (by omega) (by omega) (by omega) (by omega)]
      · rw [if_neg (by omega), if_neg (by omega)]
        simp [cpyI, hk]
    · by_cases h9 : b = t + 9
      · subst h9
        by_cases hk : k < 13
        · rw [if_neg (by omega), if_pos ⟨rfl, hk⟩]
          simp only [cpyI, true_and, Nat.zero_le, Nat.zero_add, hk, if_true, Nat.sub_zero]
          rw [if_neg (by omega), gCopy_a (by omega) (by omega) (by omega), dCopy_a (by omega) (by omega) (by omega) (by omega)]
        · rw [if_neg (by omega), if_neg (by omega)]
          simp [cpyI, hk]
      · rw [if_neg (by omega), if_neg (by omega), cpyI_a h9, cpyI_a h8]
set_option maxHeartbeats 2000000 in
set_option maxRecDepth 20000 in
/-- SledHouse$Team.copyFrom -/
theorem c_tCopy {E : Ev} (GE : Glob E) (S : Nat → Option (Nat × Nat)) (I : Nat → Nat → Int32) (V : Nat → Nat → Option Nat) (J : Nat → Nat → Int64) (N : Nat) (t e : Nat) (hT : TeamSh S V t) (hE : TeamSh S V e) (hne : e + 9 < t ∨ t + 9 < e) : Ct E yX8_copyFrom cX8_copyFrom 2 none (rmL 2) [.ref t, .ref e] (S, I, V, J, N) (fun v w' => v = none ∧ w' = (S, tCopy I t e, V, J, N)) := by
  refine Ct.start GE (by decide) rfl (Nat.le_of_ble_eq_true rfl) (fun M X => ?_)
  have X : Cx E M RX8 cX8_copyFrom 2 (rmL 2) none "copyFrom" := X
  refine r_loc (L' := [some (.ref t), some (.ref e)]) rfl ?_
  obtain ⟨hs0, hv0, hv1, hv2, hv3, hD, hG, hs8, hs9⟩ := hT
  obtain ⟨es0, ev0, ev1, ev2, ev3, eD, eG, es8, es9⟩ := hE
  have hD0 := hD.1
  have hG0 := hG.1
  have hb : ∀ k, gCopy (dCopy I (t + 1) (e + 1)) (t + 5) (e + 5) e k = I e k := fun k => by rw [gCopy_a (by omega) (by omega) (by omega), dCopy_a (by omega) (by omega) (by omega) (by omega)]
  refine r_aload_n X dX8_copyFrom_0 rfl rfl ?_
  refine r_getR X dX8_copyFrom_1 fX8_12 (by assumption) (by assumption) ?_
  refine r_aload_n X dX8_copyFrom_4 rfl rfl ?_
  refine r_getR X dX8_copyFrom_5 fX8_12 (by assumption) (by assumption) ?_
  refine q_callV X dX8_copyFrom_8 mX8_83 cwX0_copyFrom (c_dCopy GE S I V J N (t + 1) (e + 1) hD eD (by omega)) rfl (by assumption) rfl rfl rfl (Nat.le_of_ble_eq_true rfl) ⟨by decide, by decide⟩ ⟨by first | omega | decide, by first | omega | decide⟩ ?_
  rintro _ _ ⟨rfl, rfl⟩
  refine r_aload_n X dX8_copyFrom_11 rfl rfl ?_
  refine r_getR X dX8_copyFrom_12 fX8_21 (by assumption) (by assumption) ?_
  refine r_aload_n X dX8_copyFrom_15 rfl rfl ?_
  refine r_getR X dX8_copyFrom_16 fX8_21 (by assumption) (by assumption) ?_
  refine q_callV X dX8_copyFrom_19 mX8_87 cwX1_copyFrom (c_gCopy GE S _ V J N (t + 5) (e + 5) hG eG (by omega)) rfl (by assumption) rfl rfl rfl (Nat.le_of_ble_eq_true rfl) ⟨by decide, by decide⟩ ⟨by first | omega | decide, by first | omega | decide⟩ ?_
  rintro _ _ ⟨rfl, rfl⟩
  refine r_aload_n X dX8_copyFrom_22 rfl rfl ?_
  refine r_getR X dX8_copyFrom_23 fX8_25 (by assumption) (by assumption) ?_
  refine r_iconst (v := nI 0) X dX8_copyFrom_26 (by decide) ?_
  refine r_aload_n X dX8_copyFrom_27 rfl rfl ?_
  refine r_getR X dX8_copyFrom_28 fX8_25 (by assumption) (by assumption) ?_
  refine r_iconst (v := nI 0) X dX8_copyFrom_31 (by decide) ?_
  refine r_bipush (v := nI 13) X dX8_copyFrom_32 (by decide) ?_
  refine r_copyI X dX8_copyFrom_34 mmX8_90 (by assumption) (by assumption) (by omega) (by omega) (by omega) (by omega) (by decide) (Nat.le_of_ble_eq_true rfl) ?_
  refine r_aload_n X dX8_copyFrom_37 rfl rfl ?_
  refine r_getR X dX8_copyFrom_38 fX8_29 (by assumption) (by assumption) ?_
  refine r_iconst (v := nI 0) X dX8_copyFrom_41 (by decide) ?_
  refine r_aload_n X dX8_copyFrom_42 rfl rfl ?_
  refine r_getR X dX8_copyFrom_43 fX8_29 (by assumption) (by assumption) ?_
  refine r_iconst (v := nI 0) X dX8_copyFrom_46 (by decide) ?_
  refine r_bipush (v := nI 13) X dX8_copyFrom_47 (by decide) ?_
  refine r_copyI X dX8_copyFrom_49 mmX8_90 (by assumption) (by assumption) (by omega) (by omega) (by omega) (by omega) (by decide) (Nat.le_of_ble_eq_true rfl) ?_
  refine r_aload_n X dX8_copyFrom_52 rfl rfl ?_
  refine r_aload_n X dX8_copyFrom_53 rfl rfl ?_
  refine r_getI X dX8_copyFrom_54 fX8_32 (by assumption) ((cpyI_a (by omega)).trans ((cpyI_a (by omega)).trans (hb _))) ?_
  refine r_putI X dX8_copyFrom_57 fX8_32 wX8_32 (by assumption) rfl rfl ?_
  refine r_aload_n X dX8_copyFrom_60 rfl rfl ?_
  refine r_aload_n X dX8_copyFrom_61 rfl rfl ?_
  refine r_getI X dX8_copyFrom_62 fX8_36 (by assumption) ((up2_a (by omega)).trans ((cpyI_a (by omega)).trans ((cpyI_a (by omega)).trans (hb _)))) ?_
  refine r_putI X dX8_copyFrom_65 fX8_36 wX8_36 (by assumption) rfl rfl ?_
  refine r_aload_n X dX8_copyFrom_68 rfl rfl ?_
  refine r_aload_n X dX8_copyFrom_69 rfl rfl ?_
  refine r_getI X dX8_copyFrom_70 fX8_39 (by assumption) ((up2_a (by omega)).trans ((up2_a (by omega)).trans ((cpyI_a (by omega)).trans ((cpyI_a (by omega)).trans (hb _))))) ?_
  refine r_putI X dX8_copyFrom_73 fX8_39 wX8_39 (by assumption) rfl rfl ?_
  refine r_aload_n X dX8_copyFrom_76 rfl rfl ?_
  refine r_aload_n X dX8_copyFrom_77 rfl rfl ?_
  refine r_getI X dX8_copyFrom_78 fX8_42 (by assumption) ((up2_a (by omega)).trans ((up2_a (by omega)).trans ((up2_a (by omega)).trans ((cpyI_a (by omega)).trans ((cpyI_a (by omega)).trans (hb _)))))) ?_
  refine r_putI X dX8_copyFrom_81 fX8_42 wX8_42 (by assumption) rfl rfl ?_
  refine r_aload_n X dX8_copyFrom_84 rfl rfl ?_
  refine r_aload_n X dX8_copyFrom_85 rfl rfl ?_
  refine r_getI X dX8_copyFrom_86 fX8_45 (by assumption) ((up2_a (by omega)).trans ((up2_a (by omega)).trans ((up2_a (by omega)).trans ((up2_a (by omega)).trans ((cpyI_a (by omega)).trans ((cpyI_a (by omega)).trans (hb _))))))) ?_
  refine r_putI X dX8_copyFrom_89 fX8_45 wX8_45 (by assumption) rfl rfl ?_
  refine r_aload_n X dX8_copyFrom_92 rfl rfl ?_
  refine r_aload_n X dX8_copyFrom_93 rfl rfl ?_
  refine r_getI X dX8_copyFrom_94 fX8_48 (by assumption) ((up2_a (by omega)).trans ((up2_a (by omega)).trans ((up2_a (by omega)).trans ((up2_a (by omega)).trans ((up2_a (by omega)).trans ((cpyI_a (by omega)).trans ((cpyI_a (by omega)).trans (hb _)))))))) ?_
  refine r_putI X dX8_copyFrom_97 fX8_48 wX8_48 (by assumption) rfl rfl ?_
  refine r_aload_n X dX8_copyFrom_100 rfl rfl ?_
  refine r_aload_n X dX8_copyFrom_101 rfl rfl ?_
  refine r_getI X dX8_copyFrom_102 fX8_51 (by assumption) ((up2_a (by omega)).trans ((up2_a (by omega)).trans ((up2_a (by omega)).trans ((up2_a (by omega)).trans ((up2_a (by omega)).trans ((up2_a (by omega)).trans ((cpyI_a (by omega)).trans ((cpyI_a (by omega)).trans (hb _))))))))) ?_
  refine r_putI X dX8_copyFrom_105 fX8_51 wX8_51 (by assumption) rfl rfl ?_
  refine r_aload_n X dX8_copyFrom_108 rfl rfl ?_
  refine r_aload_n X dX8_copyFrom_109 rfl rfl ?_
  refine r_getI X dX8_copyFrom_110 fX8_54 (by assumption) ((up2_a (by omega)).trans ((up2_a (by omega)).trans ((up2_a (by omega)).trans ((up2_a (by omega)).trans ((up2_a (by omega)).trans ((up2_a (by omega)).trans ((up2_a (by omega)).trans ((cpyI_a (by omega)).trans ((cpyI_a (by omega)).trans (hb _)))))))))) ?_
  refine r_putI X dX8_copyFrom_113 fX8_54 wX8_54 (by assumption) rfl rfl ?_
  refine r_aload_n X dX8_copyFrom_116 rfl rfl ?_
  refine r_aload_n X dX8_copyFrom_117 rfl rfl ?_
  refine r_getI X dX8_copyFrom_118 fX8_57 (by assumption) ((up2_a (by omega)).trans ((up2_a (by omega)).trans ((up2_a (by omega)).trans ((up2_a (by omega)).trans ((up2_a (by omega)).trans ((up2_a (by omega)).trans ((up2_a (by omega)).trans ((up2_a (by omega)).trans ((cpyI_a (by omega)).trans ((cpyI_a (by omega)).trans (hb _))))))))))) ?_
  refine r_putI X dX8_copyFrom_121 fX8_57 wX8_57 (by assumption) rfl rfl ?_
  refine r_aload_n X dX8_copyFrom_124 rfl rfl ?_
  refine r_aload_n X dX8_copyFrom_125 rfl rfl ?_
  refine r_getI X dX8_copyFrom_126 fX8_60 (by assumption) ((up2_a (by omega)).trans ((up2_a (by omega)).trans ((up2_a (by omega)).trans ((up2_a (by omega)).trans ((up2_a (by omega)).trans ((up2_a (by omega)).trans ((up2_a (by omega)).trans ((up2_a (by omega)).trans ((up2_a (by omega)).trans ((cpyI_a (by omega)).trans ((cpyI_a (by omega)).trans (hb _)))))))))))) ?_
  refine r_putI X dX8_copyFrom_129 fX8_60 wX8_60 (by assumption) rfl rfl ?_
  refine r_aload_n X dX8_copyFrom_132 rfl rfl ?_
  refine r_aload_n X dX8_copyFrom_133 rfl rfl ?_
  refine r_getI X dX8_copyFrom_134 fX8_63 (by assumption) ((up2_a (by omega)).trans ((up2_a (by omega)).trans ((up2_a (by omega)).trans ((up2_a (by omega)).trans ((up2_a (by omega)).trans ((up2_a (by omega)).trans ((up2_a (by omega)).trans ((up2_a (by omega)).trans ((up2_a (by omega)).trans ((up2_a (by omega)).trans ((cpyI_a (by omega)).trans ((cpyI_a (by omega)).trans (hb _))))))))))))) ?_
  refine r_putI X dX8_copyFrom_137 fX8_63 wX8_63 (by assumption) rfl rfl ?_
  refine r_return X dX8_copyFrom_140 (by first | omega | decide) (by first | omega | decide) ?_
  exact ⟨rfl, by rw [tCopy_eq I t e hne]⟩
def tArrive (I : Mem) (t m l n : Nat) (x : Int32) : Mem :=
  if l + 1 < n then dLc (up2 (up2 (up2 I t 10 (nI (l + 1))) t 11 0) (t + 8) (l + 1) x) (t + 1) (nI (l + 1)) m
  else up2 (dLc (up2 (up2 (up2 I t 10 (nI (l + 1))) t 11 0) (t + 8) (l + 1) x) (t + 1) (nI (l + 1)) m) t 8 2
set_option maxHeartbeats 2000000 in
set_option maxRecDepth 20000 in
/-- SledHouse$Team.arrive -/
theorem c_tArrive {E : Ev} (GE : Glob E) (S : Nat → Option (Nat × Nat)) (I : Nat → Nat → Int32) (V : Nat → Nat → Option Nat) (J : Nat → Nat → Int64) (N : Nat) (t m l n : Nat) (x : Int32) (hT : TeamSh S V t) (hm : I (t + 1) 3 = nI m) (hm6 : m ≤ 16) (hl : I t 10 = nI l) (hl12 : l < 12) (hn12 : n ≤ 12) : Ct E yX8_arrive cX8_arrive 3 none (rmL 1) [.ref t, .int (nI n), .int x] (S, I, V, J, N) (fun v w' => v = none ∧ w' = (S, tArrive I t m l n x, V, J, N)) := by
  refine Ct.start GE (by decide) rfl (Nat.le_of_ble_eq_true rfl) (fun M X => ?_)
  have X : Cx E M RX8 cX8_arrive 3 (rmL 1) none "arrive" := X
  refine r_loc (L' := [some (.ref t), some (.int (nI n)), some (.int x)]) rfl ?_
  obtain ⟨hs0, hv0, hv1, hv2, hv3, hD, hG, hs8, hs9⟩ := hT
  have hD0 := hD.1
  refine r_aload_n X dX8_arrive_0 rfl rfl ?_
  refine r_dup X dX8_arrive_1 rfl ?_
  refine r_getI X dX8_arrive_2 fX8_51 (by assumption) (by first | assumption | rfl) ?_
  refine r_iconst (v := 1) X dX8_arrive_5 (by decide) ?_
  refine r_iadd X dX8_arrive_6 ?_
  refine r_topi (nI (l + 1)) (nI_1 l) ?_
  refine r_putI X dX8_arrive_7 fX8_51 wX8_51 (by assumption) rfl rfl ?_
  refine r_aload_n X dX8_arrive_10 rfl rfl ?_
  refine r_iconst (v := 0) X dX8_arrive_11 (by decide) ?_
  refine r_putI X dX8_arrive_12 fX8_54 wX8_54 (by assumption) rfl rfl ?_
  refine r_aload_n X dX8_arrive_15 rfl rfl ?_
  refine r_getR X dX8_arrive_16 fX8_25 (by assumption) (by assumption) ?_
  refine r_aload_n X dX8_arrive_19 rfl rfl ?_
  refine r_getI X dX8_arrive_20 fX8_51 (by assumption) ((up2_k (by decide)).trans (up2_same _ _ _ _)) ?_
  refine r_iload_n X dX8_arrive_23 rfl rfl ?_
  refine r_iastN X dX8_arrive_24 (by assumption) (by omega) (by omega) ?_
  refine r_aload_n X dX8_arrive_25 rfl rfl ?_
  refine r_getR X dX8_arrive_26 fX8_12 (by assumption) (by assumption) ?_
  refine r_aload_n X dX8_arrive_29 rfl rfl ?_
  refine r_getI X dX8_arrive_30 fX8_51 (by assumption) ((up2_a (by omega)).trans ((up2_k (by decide)).trans (up2_same _ _ _ _))) ?_
  refine q_callV X dX8_arrive_33 mX8_169 cwX0_leaveCarried (c_dLc GE S _ V J N (t + 1) m _ hD (by rw [up2_a (by omega), up2_a (by omega), up2_a (by omega)]; exact hm) hm6) rfl (by assumption) rfl rfl rfl (Nat.le_of_ble_eq_true rfl) ⟨by decide, by decide⟩ ⟨by first | omega | decide, by first | omega | decide⟩ ?_
  rintro _ _ ⟨rfl, rfl⟩
  refine r_aload_n X dX8_arrive_36 rfl rfl ?_
  refine r_getI X dX8_arrive_37 fX8_51 (by assumption) ((dLc_k _ _ _ (by omega) (by omega) (fun q => absurd q (by omega)) _).trans ((up2_a (by omega)).trans ((up2_k (by decide)).trans (up2_same _ _ _ _)))) ?_
  refine r_iload_n X dX8_arrive_40 rfl rfl ?_
  refine r_icmpN_lt (tgt := 49) X dX8_arrive_41 (by decide) (by omega) (by omega) (fun h41 => ?_) (fun h41 => ?_)
  · skip
    refine r_return X dX8_arrive_49 (by first | omega | decide) (by first | omega | decide) ?_
    first | exact ⟨rfl, by rw [tArrive, if_pos (by omega)]⟩ | exact ⟨rfl, by rw [tArrive, if_neg (by omega)]⟩
  · skip
    refine r_aload_n X dX8_arrive_44 rfl rfl ?_
    refine r_iconst (v := 2) X dX8_arrive_45 (by decide) ?_
    refine r_putI X dX8_arrive_46 fX8_45 wX8_45 (by assumption) rfl rfl ?_
    refine r_return X dX8_arrive_49 (by first | omega | decide) (by first | omega | decide) ?_
    first | exact ⟨rfl, by rw [tArrive, if_pos (by omega)]⟩ | exact ⟨rfl, by rw [tArrive, if_neg (by omega)]⟩
/-- what pause does behind feeding or leaving -/
def tPauseZ (I : Mem) (t m : Nat) (deg : Int32) : Mem := up2 (up2 (dGain I (t + 1) (tRestGain deg) m) t 13 (dGain I (t + 1) (tRestGain deg) m t 13 + 1)) t 12 0
def tPause (I : Mem) (t m : Nat) (act deg : Int32) : Mem :=
  if act = 2 ∧ 0 < I t 9 then tPauseZ (dGain (up2 I t 9 (I t 9 - 1)) (t + 1) 120 m) t m deg
  else if act = 3 ∧ I t 11 = 0 ∧ 1 < I (t + 1) 4 then tPauseZ (dLeaveW I (t + 1) m (I t 10)) t m deg
  else tPauseZ I t m deg
theorem dLeaveW_k {I : Mem} {d m : Nat} {p : Int32} {b k : Nat} (h2 : b ≠ d + 2) (h3 : b ≠ d + 3) (h4 : b = d → k ≠ 4) : dLeaveW I d m p b k = I b k := by
  unfold dLeaveW
  cases dWeak I d m with
  | none => rfl
  | some w =>
    by_cases hb : b = d
    · simp only []; rw [up2_k (h4 hb), up2_a h3, up2_a h2]
    · simp only []; rw [up2_a hb, up2_a h3, up2_a h2]
set_option maxHeartbeats 2000000 in
set_option maxRecDepth 20000 in
/-- SledHouse$Team.pause -/
theorem c_tPause {E : Ev} (GE : Glob E) (S : Nat → Option (Nat × Nat)) (I : Nat → Nat → Int32) (V : Nat → Nat → Option Nat) (J : Nat → Nat → Int64) (N : Nat) (t m : Nat) (act deg : Int32) (hT : TeamSh S V t) (hm : I (t + 1) 3 = nI m) (hm6 : m ≤ 16) : Ct E yX8_pause cX8_pause 3 none (rmL 2) [.ref t, .int act, .int deg] (S, I, V, J, N) (fun v w' => v = none ∧ w' = (S, tPause I t m act deg, V, J, N)) := by
  refine Ct.start GE (by decide) rfl (Nat.le_of_ble_eq_true rfl) (fun M X => ?_)
  have X : Cx E M RX8 cX8_pause 3 (rmL 2) none "pause" := X
  refine r_loc (L' := [some (.ref t), some (.int act), some (.int deg)]) rfl ?_
  obtain ⟨hs0, hv0, hv1, hv2, hv3, hD, hG, hs8, hs9⟩ := hT
  have hD0 := hD.1
  have H68 : ∀ I1 : Mem, I1 (t + 1) 3 = nI m → tPauseZ I1 t m deg = tPause I t m act deg → G E M 0 0 (qQ E M (rmL 2) (fun v w' => v = none ∧ w' = (S, tPause I t m act deg, V, J, N))) 68 [some (.ref t), some (.int act), some (.int deg)] [] (S, I1, V, J, N) := by
    intro I1 hm1 he
    refine r_aload_n X dX8_pause_68 rfl rfl ?_
    refine r_getR X dX8_pause_69 fX8_12 (by assumption) (by assumption) ?_
    refine r_iload_n X dX8_pause_72 rfl rfl ?_
    refine q_callS X dX8_pause_73 mX8_137 cwX8_restGain (c_tRestGain GE _ _) rfl rfl (Nat.le_of_ble_eq_true rfl) ⟨by decide, by decide⟩ ⟨by first | omega | decide, by first | omega | decide⟩ ?_
    rintro _ _ ⟨rfl, rfl⟩
    refine q_callV X dX8_pause_76 mX8_128 cwX0_gain (c_dGain GE S I1 V J N (t + 1) m _ hD hm1 hm6) rfl (by assumption) rfl rfl rfl (Nat.le_of_ble_eq_true rfl) ⟨by decide, by decide⟩ ⟨by first | omega | decide, by first | omega | decide⟩ ?_
    rintro _ _ ⟨rfl, rfl⟩
    refine r_aload_n X dX8_pause_79 rfl rfl ?_
    refine r_dup X dX8_pause_80 rfl ?_
    refine r_getI X dX8_pause_81 fX8_60 (by assumption) (by first | assumption | rfl) ?_
    refine r_iconst (v := 1) X dX8_pause_84 (by decide) ?_
    refine r_iadd X dX8_pause_85 ?_
    refine r_putI X dX8_pause_86 fX8_60 wX8_60 (by assumption) rfl rfl ?_
    refine r_aload_n X dX8_pause_89 rfl rfl ?_
    refine r_iconst (v := 0) X dX8_pause_90 (by decide) ?_
    refine r_putI X dX8_pause_91 fX8_57 wX8_57 (by assumption) rfl rfl ?_
    refine r_return X dX8_pause_94 (by first | omega | decide) (by first | omega | decide) ?_
    exact ⟨rfl, by rw [← he]; rfl⟩
  refine r_iload_n X dX8_pause_0 rfl rfl ?_
  refine r_iconst (v := nI 2) X dX8_pause_1 (by decide) ?_
  refine r_icmp_ne (tgt := 34) X dX8_pause_2 (by decide) (fun h2 => ?_) (fun h2 => ?_)
  · skip
    refine r_iload_n X dX8_pause_34 rfl rfl ?_
    refine r_iconst (v := nI 3) X dX8_pause_35 (by decide) ?_
    refine r_icmp_ne (tgt := 68) X dX8_pause_36 (by decide) (fun h36 => ?_) (fun h36 => ?_)
    · skip
      first | exact H68 _ ((dGain_k _ _ _ (by omega) _).trans ((up2_a (by omega)).trans hm)) (by rw [tPause, if_pos ⟨by assumption, Int32.not_le.mp h9⟩]) | exact H68 _ ((dLeaveW_k (by omega) (by omega) (fun _ => by decide)).trans hm) (by rw [tPause, if_neg (by intro q; first | exact absurd q.1 (by assumption) | exact absurd q.2 (Int32.not_lt.mpr h9)), if_pos ⟨by assumption, by assumption, Int32.not_le.mp h54⟩]) | exact H68 _ hm (by rw [tPause, if_neg (by intro q; first | exact absurd q.1 (by assumption) | exact absurd q.2 (Int32.not_lt.mpr h9)), if_neg (by intro q; first | exact absurd q.1 (by assumption) | exact absurd q.2.1 (by assumption) | exact absurd q.2.2 (Int32.not_lt.mpr h54))])
    · skip
      refine r_aload_n X dX8_pause_39 rfl rfl ?_
      refine r_getI X dX8_pause_40 fX8_54 (by assumption) (by first | assumption | rfl) ?_
      refine r_if_ne (tgt := 68) X dX8_pause_43 (by decide) (fun h43 => ?_) (fun h43 => ?_)
      · skip
        first | exact H68 _ ((dGain_k _ _ _ (by omega) _).trans ((up2_a (by omega)).trans hm)) (by rw [tPause, if_pos ⟨by assumption, Int32.not_le.mp h9⟩]) | exact H68 _ ((dLeaveW_k (by omega) (by omega) (fun _ => by decide)).trans hm) (by rw [tPause, if_neg (by intro q; first | exact absurd q.1 (by assumption) | exact absurd q.2 (Int32.not_lt.mpr h9)), if_pos ⟨by assumption, by assumption, Int32.not_le.mp h54⟩]) | exact H68 _ hm (by rw [tPause, if_neg (by intro q; first | exact absurd q.1 (by assumption) | exact absurd q.2 (Int32.not_lt.mpr h9)), if_neg (by intro q; first | exact absurd q.1 (by assumption) | exact absurd q.2.1 (by assumption) | exact absurd q.2.2 (Int32.not_lt.mpr h54))])
      · skip
        refine r_aload_n X dX8_pause_46 rfl rfl ?_
        refine r_getR X dX8_pause_47 fX8_12 (by assumption) (by assumption) ?_
        refine r_getI X dX8_pause_50 fX8_131 (by assumption) (by first | assumption | rfl) ?_
        refine r_iconst (v := nI 1) X dX8_pause_53 (by decide) ?_
        refine r_icmp_le (tgt := 68) X dX8_pause_54 (by decide) (fun h54 => ?_) (fun h54 => ?_)
        · skip
          first | exact H68 _ ((dGain_k _ _ _ (by omega) _).trans ((up2_a (by omega)).trans hm)) (by rw [tPause, if_pos ⟨by assumption, Int32.not_le.mp h9⟩]) | exact H68 _ ((dLeaveW_k (by omega) (by omega) (fun _ => by decide)).trans hm) (by rw [tPause, if_neg (by intro q; first | exact absurd q.1 (by assumption) | exact absurd q.2 (Int32.not_lt.mpr h9)), if_pos ⟨by assumption, by assumption, Int32.not_le.mp h54⟩]) | exact H68 _ hm (by rw [tPause, if_neg (by intro q; first | exact absurd q.1 (by assumption) | exact absurd q.2 (Int32.not_lt.mpr h9)), if_neg (by intro q; first | exact absurd q.1 (by assumption) | exact absurd q.2.1 (by assumption) | exact absurd q.2.2 (Int32.not_lt.mpr h54))])
        · skip
          refine r_aload_n X dX8_pause_57 rfl rfl ?_
          refine r_getR X dX8_pause_58 fX8_12 (by assumption) (by assumption) ?_
          refine r_aload_n X dX8_pause_61 rfl rfl ?_
          refine r_getI X dX8_pause_62 fX8_51 (by assumption) (by first | assumption | rfl) ?_
          refine q_callV X dX8_pause_65 mX8_134 cwX0_leaveWeakest (c_dLeaveW GE S _ V J N (t + 1) m _ hD hm hm6) rfl (by assumption) rfl rfl rfl (Nat.le_of_ble_eq_true rfl) ⟨by decide, by decide⟩ ⟨by first | omega | decide, by first | omega | decide⟩ ?_
          rintro _ _ ⟨rfl, rfl⟩
          first | exact H68 _ ((dGain_k _ _ _ (by omega) _).trans ((up2_a (by omega)).trans hm)) (by rw [tPause, if_pos ⟨by assumption, Int32.not_le.mp h9⟩]) | exact H68 _ ((dLeaveW_k (by omega) (by omega) (fun _ => by decide)).trans hm) (by rw [tPause, if_neg (by intro q; first | exact absurd q.1 (by assumption) | exact absurd q.2 (Int32.not_lt.mpr h9)), if_pos ⟨by assumption, by assumption, Int32.not_le.mp h54⟩]) | exact H68 _ hm (by rw [tPause, if_neg (by intro q; first | exact absurd q.1 (by assumption) | exact absurd q.2 (Int32.not_lt.mpr h9)), if_neg (by intro q; first | exact absurd q.1 (by assumption) | exact absurd q.2.1 (by assumption) | exact absurd q.2.2 (Int32.not_lt.mpr h54))])
  · skip
    refine r_aload_n X dX8_pause_5 rfl rfl ?_
    refine r_getI X dX8_pause_6 fX8_48 (by assumption) (by first | assumption | rfl) ?_
    refine r_if_le (tgt := 34) X dX8_pause_9 (by decide) (fun h9 => ?_) (fun h9 => ?_)
    · skip
      refine r_iload_n X dX8_pause_34 rfl rfl ?_
      refine r_iconst (v := nI 3) X dX8_pause_35 (by decide) ?_
      refine r_icmp_ne (tgt := 68) X dX8_pause_36 (by decide) (fun h36 => ?_) (fun h36 => ?_)
      · skip
        first | exact H68 _ ((dGain_k _ _ _ (by omega) _).trans ((up2_a (by omega)).trans hm)) (by rw [tPause, if_pos ⟨by assumption, Int32.not_le.mp h9⟩]) | exact H68 _ ((dLeaveW_k (by omega) (by omega) (fun _ => by decide)).trans hm) (by rw [tPause, if_neg (by intro q; first | exact absurd q.1 (by assumption) | exact absurd q.2 (Int32.not_lt.mpr h9)), if_pos ⟨by assumption, by assumption, Int32.not_le.mp h54⟩]) | exact H68 _ hm (by rw [tPause, if_neg (by intro q; first | exact absurd q.1 (by assumption) | exact absurd q.2 (Int32.not_lt.mpr h9)), if_neg (by intro q; first | exact absurd q.1 (by assumption) | exact absurd q.2.1 (by assumption) | exact absurd q.2.2 (Int32.not_lt.mpr h54))])
      · skip
        refine r_aload_n X dX8_pause_39 rfl rfl ?_
        refine r_getI X dX8_pause_40 fX8_54 (by assumption) (by first | assumption | rfl) ?_
        refine r_if_ne (tgt := 68) X dX8_pause_43 (by decide) (fun h43 => ?_) (fun h43 => ?_)
        · skip
          first | exact H68 _ ((dGain_k _ _ _ (by omega) _).trans ((up2_a (by omega)).trans hm)) (by rw [tPause, if_pos ⟨by assumption, Int32.not_le.mp h9⟩]) | exact H68 _ ((dLeaveW_k (by omega) (by omega) (fun _ => by decide)).trans hm) (by rw [tPause, if_neg (by intro q; first | exact absurd q.1 (by assumption) | exact absurd q.2 (Int32.not_lt.mpr h9)), if_pos ⟨by assumption, by assumption, Int32.not_le.mp h54⟩]) | exact H68 _ hm (by rw [tPause, if_neg (by intro q; first | exact absurd q.1 (by assumption) | exact absurd q.2 (Int32.not_lt.mpr h9)), if_neg (by intro q; first | exact absurd q.1 (by assumption) | exact absurd q.2.1 (by assumption) | exact absurd q.2.2 (Int32.not_lt.mpr h54))])
        · skip
          refine r_aload_n X dX8_pause_46 rfl rfl ?_
          refine r_getR X dX8_pause_47 fX8_12 (by assumption) (by assumption) ?_
          refine r_getI X dX8_pause_50 fX8_131 (by assumption) (by first | assumption | rfl) ?_
          refine r_iconst (v := nI 1) X dX8_pause_53 (by decide) ?_
          refine r_icmp_le (tgt := 68) X dX8_pause_54 (by decide) (fun h54 => ?_) (fun h54 => ?_)
          · skip
            first | exact H68 _ ((dGain_k _ _ _ (by omega) _).trans ((up2_a (by omega)).trans hm)) (by rw [tPause, if_pos ⟨by assumption, Int32.not_le.mp h9⟩]) | exact H68 _ ((dLeaveW_k (by omega) (by omega) (fun _ => by decide)).trans hm) (by rw [tPause, if_neg (by intro q; first | exact absurd q.1 (by assumption) | exact absurd q.2 (Int32.not_lt.mpr h9)), if_pos ⟨by assumption, by assumption, Int32.not_le.mp h54⟩]) | exact H68 _ hm (by rw [tPause, if_neg (by intro q; first | exact absurd q.1 (by assumption) | exact absurd q.2 (Int32.not_lt.mpr h9)), if_neg (by intro q; first | exact absurd q.1 (by assumption) | exact absurd q.2.1 (by assumption) | exact absurd q.2.2 (Int32.not_lt.mpr h54))])
          · skip
            refine r_aload_n X dX8_pause_57 rfl rfl ?_
            refine r_getR X dX8_pause_58 fX8_12 (by assumption) (by assumption) ?_
            refine r_aload_n X dX8_pause_61 rfl rfl ?_
            refine r_getI X dX8_pause_62 fX8_51 (by assumption) (by first | assumption | rfl) ?_
            refine q_callV X dX8_pause_65 mX8_134 cwX0_leaveWeakest (c_dLeaveW GE S _ V J N (t + 1) m _ hD hm hm6) rfl (by assumption) rfl rfl rfl (Nat.le_of_ble_eq_true rfl) ⟨by decide, by decide⟩ ⟨by first | omega | decide, by first | omega | decide⟩ ?_
            rintro _ _ ⟨rfl, rfl⟩
            first | exact H68 _ ((dGain_k _ _ _ (by omega) _).trans ((up2_a (by omega)).trans hm)) (by rw [tPause, if_pos ⟨by assumption, Int32.not_le.mp h9⟩]) | exact H68 _ ((dLeaveW_k (by omega) (by omega) (fun _ => by decide)).trans hm) (by rw [tPause, if_neg (by intro q; first | exact absurd q.1 (by assumption) | exact absurd q.2 (Int32.not_lt.mpr h9)), if_pos ⟨by assumption, by assumption, Int32.not_le.mp h54⟩]) | exact H68 _ hm (by rw [tPause, if_neg (by intro q; first | exact absurd q.1 (by assumption) | exact absurd q.2 (Int32.not_lt.mpr h9)), if_neg (by intro q; first | exact absurd q.1 (by assumption) | exact absurd q.2.1 (by assumption) | exact absurd q.2.2 (Int32.not_lt.mpr h54))])
    · skip
      refine r_aload_n X dX8_pause_12 rfl rfl ?_
      refine r_dup X dX8_pause_13 rfl ?_
      refine r_getI X dX8_pause_14 fX8_48 (by assumption) (by first | assumption | rfl) ?_
      refine r_iconst (v := 1) X dX8_pause_17 (by decide) ?_
      refine r_isub X dX8_pause_18 ?_
      refine r_putI X dX8_pause_19 fX8_48 wX8_48 (by assumption) rfl rfl ?_
      refine r_aload_n X dX8_pause_22 rfl rfl ?_
      refine r_getR X dX8_pause_23 fX8_12 (by assumption) (by assumption) ?_
      refine r_bipush (v := 120) X dX8_pause_26 (by decide) ?_
      refine q_callV X dX8_pause_28 mX8_128 cwX0_gain (c_dGain GE S _ V J N (t + 1) m _ hD ((up2_a (by omega)).trans hm) hm6) rfl (by assumption) rfl rfl rfl (Nat.le_of_ble_eq_true rfl) ⟨by decide, by decide⟩ ⟨by first | omega | decide, by first | omega | decide⟩ ?_
      rintro _ _ ⟨rfl, rfl⟩
      refine r_goto (tgt := 68) X dX8_pause_31 (by decide) ?_
      first | exact H68 _ ((dGain_k _ _ _ (by omega) _).trans ((up2_a (by omega)).trans hm)) (by rw [tPause, if_pos ⟨by assumption, Int32.not_le.mp h9⟩]) | exact H68 _ ((dLeaveW_k (by omega) (by omega) (fun _ => by decide)).trans hm) (by rw [tPause, if_neg (by intro q; first | exact absurd q.1 (by assumption) | exact absurd q.2 (Int32.not_lt.mpr h9)), if_pos ⟨by assumption, by assumption, Int32.not_le.mp h54⟩]) | exact H68 _ hm (by rw [tPause, if_neg (by intro q; first | exact absurd q.1 (by assumption) | exact absurd q.2 (Int32.not_lt.mpr h9)), if_neg (by intro q; first | exact absurd q.1 (by assumption) | exact absurd q.2.1 (by assumption) | exact absurd q.2.2 (Int32.not_lt.mpr h54))])
/-- going on, from the loss on -/
def tGoZ (I : Mem) (t r m n l s : Nat) (h : Int32) : Mem :=
  if I (t + 1) 4 = 0 then up2 I t 8 3
  else if up2 I t 11 (I t 11 + tReach I t m h) t 11 < lenOf (up2 I t 11 (I t 11 + tReach I t m h)) r n l then up2 I t 11 (I t 11 + tReach I t m h)
  else tArrive (up2 I t 11 (I t 11 + tReach I t m h)) t m l n (nI s + 1)
def tGoY (I : Mem) (t r m n l s : Nat) (h : Int32) : Mem := tGoZ (dLose I (t + 1) (6 + tLoad I t / 40 + h / 25 + tHeat (I (r + 4) (s / 6))) m) t r m n l s h
def tGoX (I : Mem) (t r m n l s : Nat) (h : Int32) : Mem := tGoY (up2 (up2 I t 12 (I t 12 + 1)) t 13 0) t r m n l s h
def tGo (I : Mem) (t r m n l s : Nat) : Mem := if I t 11 = 0 ∧ I (t + 9) l = -1 then tGoX (up2 I (t + 9) l (nI s)) t r m n l s (I (r + 2) l) else tGoX I t r m n l s (I (r + 2) l)
set_option maxHeartbeats 2000000 in
set_option maxRecDepth 20000 in
/-- SledHouse$Team.goOn -/
theorem c_tGo {E : Ev} (GE : Glob E) (S : Nat → Option (Nat × Nat)) (I : Nat → Nat → Int32) (V : Nat → Nat → Option Nat) (J : Nat → Nat → Int64) (N : Nat) (t r m n l s : Nat) (hT : TeamSh S V t) (hR : TrailSh S V r) (hm : I (t + 1) 3 = nI m) (hm6 : m ≤ 16) (hl : I t 10 = nI l) (hln : l < n) (hn : I r 4 = nI n) (hn12 : n ≤ 12) (hs : s < 2000) (hne : r + 4 < t ∨ t + 9 < r) : Ct E yX8_goOn cX8_goOn 4 none (rmL 3) [.ref t, .ref r, .int (nI s)] (S, I, V, J, N) (fun v w' => v = none ∧ w' = (S, tGo I t r m n l s, V, J, N)) := by
  refine Ct.start GE (by decide) rfl (Nat.le_of_ble_eq_true rfl) (fun M X => ?_)
  have X : Cx E M RX8 cX8_goOn 4 (rmL 3) none "goOn" := X
  refine r_loc (L' := [some (.ref t), some (.ref r), some (.int (nI s)), none]) rfl ?_
  have hT' := hT
  have hR' := hR
  obtain ⟨hs0, hv0, hv1, hv2, hv3, hD, hG, hs8, hs9⟩ := hT
  obtain ⟨rs0, rv0, rv1, rv2, rv3, rs1, rs2, rs3, rs4⟩ := hR
  have hD0 := hD.1
  have H40 : ∀ I1 : Mem, I1 (t + 1) 3 = nI m → I1 t 10 = nI l → I1 r 4 = nI n → tGoX I1 t r m n l s (I (r + 2) l) = tGo I t r m n l s → G E M 0 0 (qQ E M (rmL 3) (fun v w' => v = none ∧ w' = (S, tGo I t r m n l s, V, J, N))) 40 [some (.ref t), some (.ref r), some (.int (nI s)), some (.int (I (r + 2) l))] [] (S, I1, V, J, N) := by
    intro I1 hm1 hl1 hn1 he
    have hm2 : up2 (up2 I1 t 12 (I1 t 12 + 1)) t 13 0 (t + 1) 3 = nI m := (up2_a (by omega)).trans ((up2_a (by omega)).trans hm1)
    generalize hI3 : dLose (up2 (up2 I1 t 12 (I1 t 12 + 1)) t 13 0) (t + 1) (6 + tLoad (up2 (up2 I1 t 12 (I1 t 12 + 1)) t 13 0) t / 40 + I (r + 2) l / 25 + tHeat ((up2 (up2 I1 t 12 (I1 t 12 + 1)) t 13 0) (r + 4) (s / 6))) m = I3
    have hk3 : ∀ b k, b ≠ t + 2 → b ≠ t + 3 → (b = t + 1 → k ≠ 4 ∧ k ≠ 5) → I3 b k = up2 (up2 I1 t 12 (I1 t 12 + 1)) t 13 0 b k := fun b k a1 a2 a3 => by rw [← hI3]; exact dLose_k _ _ _ a1 a2 a3 _
    have hm3 : I3 (t + 1) 3 = nI m := (hk3 _ _ (by omega) (by omega) (fun _ => by decide)).trans hm2
    have hl3 : I3 t 10 = nI l := (hk3 _ _ (by omega) (by omega) (fun q => absurd q (by omega))).trans ((up2_k (by decide)).trans ((up2_k (by decide)).trans hl1))
    have hn3 : I3 r 4 = nI n := (hk3 _ _ (by omega) (by omega) (fun q => absurd q (by omega))).trans ((up2_a (by omega)).trans ((up2_a (by omega)).trans hn1))
    have he2 : tGoZ I3 t r m n l s (I (r + 2) l) = tGo I t r m n l s := by rw [← he, ← hI3]; rfl
    refine r_aload_n X dX8_goOn_40 rfl rfl ?_
    refine r_dup X dX8_goOn_41 rfl ?_
    refine r_getI X dX8_goOn_42 fX8_57 (by assumption) (by first | assumption | rfl) ?_
    refine r_iconst (v := 1) X dX8_goOn_45 (by decide) ?_
    refine r_iadd X dX8_goOn_46 ?_
    refine r_putI X dX8_goOn_47 fX8_57 wX8_57 (by assumption) rfl rfl ?_
    refine r_aload_n X dX8_goOn_50 rfl rfl ?_
    refine r_iconst (v := 0) X dX8_goOn_51 (by decide) ?_
    refine r_putI X dX8_goOn_52 fX8_60 wX8_60 (by assumption) rfl rfl ?_
    refine r_aload_n X dX8_goOn_55 rfl rfl ?_
    refine r_getR X dX8_goOn_56 fX8_12 (by assumption) (by assumption) ?_
    refine r_bipush (v := 6) X dX8_goOn_59 (by decide) ?_
    refine r_aload_n X dX8_goOn_61 rfl rfl ?_
    refine q_callV X dX8_goOn_62 mX8_143 cwX8_loadNow (c_tLoad GE S _ V J N t hT') rfl (by assumption) rfl rfl rfl (Nat.le_of_ble_eq_true rfl) ⟨by decide, by decide⟩ ⟨by first | omega | decide, by first | omega | decide⟩ ?_
    rintro _ _ ⟨rfl, rfl⟩
    refine r_bipush (v := 40) X dX8_goOn_65 (by decide) ?_
    refine r_idiv X dX8_goOn_67 (by decide) ?_
    refine r_iadd X dX8_goOn_68 ?_
    refine r_iload_n X dX8_goOn_69 rfl rfl ?_
    refine r_bipush (v := 25) X dX8_goOn_70 (by decide) ?_
    refine r_idiv X dX8_goOn_72 (by decide) ?_
    refine r_iadd X dX8_goOn_73 ?_
    refine r_aload_n X dX8_goOn_74 rfl rfl ?_
    refine r_iload_n X dX8_goOn_75 rfl rfl ?_
    refine q_callV X dX8_goOn_76 mX8_121 cwX9_coldIn (c_trCold GE S _ V J N r s hR' (by omega)) rfl (by assumption) rfl rfl rfl (Nat.le_of_ble_eq_true rfl) ⟨by decide, by decide⟩ ⟨by first | omega | decide, by first | omega | decide⟩ ?_
    rintro _ _ ⟨rfl, rfl⟩
    refine q_callS X dX8_goOn_79 mX8_147 cwX8_heatLoss (c_tHeat GE _ _) rfl rfl (Nat.le_of_ble_eq_true rfl) ⟨by decide, by decide⟩ ⟨by first | omega | decide, by first | omega | decide⟩ ?_
    rintro _ _ ⟨rfl, rfl⟩
    refine r_iadd X dX8_goOn_82 ?_
    refine q_callV X dX8_goOn_83 mX8_150 cwX0_lose (c_dLose GE S _ V J N (t + 1) m _ hD hm2 hm6) rfl (by assumption) rfl rfl rfl (Nat.le_of_ble_eq_true rfl) ⟨by decide, by decide⟩ ⟨by first | omega | decide, by first | omega | decide⟩ ?_
    rintro _ _ ⟨rfl, rfl⟩
    rw [hI3]
    refine r_aload_n X dX8_goOn_86 rfl rfl ?_
    refine r_getR X dX8_goOn_87 fX8_12 (by assumption) (by assumption) ?_
    refine r_getI X dX8_goOn_90 fX8_131 (by assumption) (by first | assumption | rfl) ?_
    refine r_if_ne (tgt := 102) X dX8_goOn_93 (by decide) (fun h93 => ?_) (fun h93 => ?_)
    · skip
      refine r_aload_n X dX8_goOn_102 rfl rfl ?_
      refine r_dup X dX8_goOn_103 rfl ?_
      refine r_getI X dX8_goOn_104 fX8_54 (by assumption) (by first | assumption | rfl) ?_
      refine r_aload_n X dX8_goOn_107 rfl rfl ?_
      refine r_iload_n X dX8_goOn_108 rfl rfl ?_
      refine q_callV X dX8_goOn_109 mX8_153 cwX8_reach (c_tReach GE S _ V J N t m _ hT' hm3 hm6) rfl (by assumption) rfl rfl rfl (Nat.le_of_ble_eq_true rfl) ⟨by decide, by decide⟩ ⟨by first | omega | decide, by first | omega | decide⟩ ?_
      rintro _ _ ⟨rfl, rfl⟩
      refine r_iadd X dX8_goOn_112 ?_
      refine r_putI X dX8_goOn_113 fX8_54 wX8_54 (by assumption) rfl rfl ?_
      refine r_aload_n X dX8_goOn_116 rfl rfl ?_
      refine r_getI X dX8_goOn_117 fX8_54 (by assumption) (by first | assumption | rfl) ?_
      refine r_aload_n X dX8_goOn_120 rfl rfl ?_
      refine r_aload_n X dX8_goOn_121 rfl rfl ?_
      refine r_getI X dX8_goOn_122 fX8_51 (by assumption) ((up2_k (by decide)).trans hl3) ?_
      refine q_callV X dX8_goOn_125 mX8_156 cwX9_lengthOf (c_trLen GE S _ V J N r n l hR' ((up2_a (by omega)).trans hn3) hn12 (by omega)) rfl (by assumption) rfl rfl rfl (Nat.le_of_ble_eq_true rfl) ⟨by decide, by decide⟩ ⟨by first | omega | decide, by first | omega | decide⟩ ?_
      rintro _ _ ⟨rfl, rfl⟩
      refine r_icmp_lt (tgt := 142) X dX8_goOn_128 (by decide) (fun h128 => ?_) (fun h128 => ?_)
      · skip
        refine r_return X dX8_goOn_142 (by first | omega | decide) (by first | omega | decide) ?_
        first | exact ⟨rfl, by rw [← he2, tGoZ, if_neg (by assumption), if_pos (by assumption)]⟩ | exact ⟨rfl, by rw [← he2, tGoZ, if_neg (by assumption), if_neg (by assumption)]⟩
      · skip
        refine r_aload_n X dX8_goOn_131 rfl rfl ?_
        refine r_aload_n X dX8_goOn_132 rfl rfl ?_
        refine r_getI X dX8_goOn_133 fX8_104 (by assumption) ((up2_a (by omega)).trans hn3) ?_
        refine r_iload_n X dX8_goOn_136 rfl rfl ?_
        refine r_iconst (v := 1) X dX8_goOn_137 (by decide) ?_
        refine r_iadd X dX8_goOn_138 ?_
        refine q_callV X dX8_goOn_139 mX8_159 cwX8_arrive (c_tArrive GE S _ V J N t m l n _ hT' ((up2_a (by omega)).trans hm3) hm6 ((up2_k (by decide)).trans hl3) (by omega) hn12) rfl (by assumption) rfl rfl rfl (Nat.le_of_ble_eq_true rfl) ⟨by decide, by decide⟩ ⟨by first | omega | decide, by first | omega | decide⟩ ?_
        rintro _ _ ⟨rfl, rfl⟩
        refine r_return X dX8_goOn_142 (by first | omega | decide) (by first | omega | decide) ?_
        first | exact ⟨rfl, by rw [← he2, tGoZ, if_neg (by assumption), if_pos (by assumption)]⟩ | exact ⟨rfl, by rw [← he2, tGoZ, if_neg (by assumption), if_neg (by assumption)]⟩
    · skip
      refine r_aload_n X dX8_goOn_96 rfl rfl ?_
      refine r_iconst (v := 3) X dX8_goOn_97 (by decide) ?_
      refine r_putI X dX8_goOn_98 fX8_45 wX8_45 (by assumption) rfl rfl ?_
      refine r_return X dX8_goOn_101 (by first | omega | decide) (by first | omega | decide) ?_
      exact ⟨rfl, by rw [← he2, tGoZ, if_pos (by assumption)]⟩
  refine r_aload_n X dX8_goOn_0 rfl rfl ?_
  refine r_getR X dX8_goOn_1 fX8_140 (by assumption) (by assumption) ?_
  refine r_aload_n X dX8_goOn_4 rfl rfl ?_
  refine r_getI X dX8_goOn_5 fX8_51 (by assumption) (by first | assumption | rfl) ?_
  refine r_ialdN X dX8_goOn_8 (by assumption) (by omega) (by omega) (by first | assumption | rfl) ?_
  refine r_istore_n X dX8_goOn_9 rfl (by decide) rfl ?_
  refine r_aload_n X dX8_goOn_10 rfl rfl ?_
  refine r_getI X dX8_goOn_11 fX8_54 (by assumption) (by first | assumption | rfl) ?_
  refine r_if_ne (tgt := 40) X dX8_goOn_14 (by decide) (fun h14 => ?_) (fun h14 => ?_)
  · skip
    first | exact H40 _ ((up2_a (by omega)).trans hm) ((up2_a (by omega)).trans hl) ((up2_a (by omega)).trans hn) (by rw [tGo, if_pos ⟨by assumption, by assumption⟩]) | exact H40 _ hm hl hn (by rw [tGo, if_neg (by intro q; first | exact absurd q.1 (by assumption) | exact absurd q.2 (by assumption))])
  · skip
    refine r_aload_n X dX8_goOn_17 rfl rfl ?_
    refine r_getR X dX8_goOn_18 fX8_29 (by assumption) (by assumption) ?_
    refine r_aload_n X dX8_goOn_21 rfl rfl ?_
    refine r_getI X dX8_goOn_22 fX8_51 (by assumption) (by first | assumption | rfl) ?_
    refine r_ialdN X dX8_goOn_25 (by assumption) (by omega) (by omega) (by first | assumption | rfl) ?_
    refine r_iconst (v := -1) X dX8_goOn_26 (by decide) ?_
    refine r_icmp_ne (tgt := 40) X dX8_goOn_27 (by decide) (fun h27 => ?_) (fun h27 => ?_)
    · skip
      first | exact H40 _ ((up2_a (by omega)).trans hm) ((up2_a (by omega)).trans hl) ((up2_a (by omega)).trans hn) (by rw [tGo, if_pos ⟨by assumption, by assumption⟩]) | exact H40 _ hm hl hn (by rw [tGo, if_neg (by intro q; first | exact absurd q.1 (by assumption) | exact absurd q.2 (by assumption))])
    · skip
      refine r_aload_n X dX8_goOn_30 rfl rfl ?_
      refine r_getR X dX8_goOn_31 fX8_29 (by assumption) (by assumption) ?_
      refine r_aload_n X dX8_goOn_34 rfl rfl ?_
      refine r_getI X dX8_goOn_35 fX8_51 (by assumption) (by first | assumption | rfl) ?_
      refine r_iload_n X dX8_goOn_38 rfl rfl ?_
      refine r_iastN X dX8_goOn_39 (by assumption) (by omega) (by omega) ?_
      first | exact H40 _ ((up2_a (by omega)).trans hm) ((up2_a (by omega)).trans hl) ((up2_a (by omega)).trans hn) (by rw [tGo, if_pos ⟨by assumption, by assumption⟩]) | exact H40 _ hm hl hn (by rw [tGo, if_neg (by intro q; first | exact absurd q.1 (by assumption) | exact absurd q.2 (by assumption))])
