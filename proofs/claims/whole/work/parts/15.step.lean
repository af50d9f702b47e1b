/-! ===== Team.doStep, Race, SignRow ===== -/
def tOn (I : Mem) (t s : Nat) : Mem := if I t 8 = 0 ∧ nI s = I t 6 then up2 (up2 I t 8 1) (t + 8) 0 (I t 6) else I
def tActs (I : Mem) (t r p m n l s nr : Nat) : Mem :=
  if pAct (up2 I t 14 (rI (pRule I p t r m n l s nr))) p (pRule I p t r m n l s nr) = 0 then tGo (up2 I t 14 (rI (pRule I p t r m n l s nr))) t r m n l s
  else tPause (up2 I t 14 (rI (pRule I p t r m n l s nr))) t m (pAct (up2 I t 14 (rI (pRule I p t r m n l s nr))) p (pRule I p t r m n l s nr)) (up2 I t 14 (rI (pRule I p t r m n l s nr)) (r + 4) (s / 6))
def tStepZ (I : Mem) (t r p m n l s nr : Nat) : Mem := if I t 8 = 1 ∧ l < n then tActs I t r p m n l s nr else I
def tStep (I : Mem) (t r p m n l s nr : Nat) : Mem := tStepZ (tOn I t s) t r p m n l s nr
theorem PlanOK.keep {I I' : Mem} {p nr : Nat} (h : PlanOK I p nr) (hk : ∀ b k, p ≤ b → b ≤ p + 6 → I' b k = I b k) : PlanOK I' p nr := by
  obtain ⟨h1, h2, h3⟩ := h
  refine ⟨(hk _ _ (by omega) (by omega)).trans h1, h2, fun q hq => ?_⟩
  obtain ⟨a, b, c⟩ := h3 q hq
  have e2 := hk (p + 2) q (by omega) (by omega)
  have e3 := hk (p + 3) q (by omega) (by omega)
  have f2 : pF I' p q = pF I p q := by unfold pF; rw [e2]
  have f3 : pC I' p q = pC I p q := by unfold pC; rw [e3]
  rw [f2, f3, e2, e3]
  exact ⟨a, b, c⟩
theorem fst1_lt {p : Nat → Bool} {n q : Nat} (h : fst1 p n = some q) : q < n := (fst1_spec h).1
set_option maxHeartbeats 2000000 in
set_option maxRecDepth 20000 in
/-- SledHouse$Team.doStep -/
theorem c_tStep {E : Ev} (GE : Glob E) (S : Nat → Option (Nat × Nat)) (I : Nat → Nat → Int32) (V : Nat → Nat → Option Nat) (J : Nat → Nat → Int64) (N : Nat) (t r p m n l s nr : Nat) (hT : TeamSh S V t) (hR : TrailSh S V r) (hP : PlanSh S V p) (hm : I (t + 1) 3 = nI m) (hm6 : m ≤ 16) (hl : I t 10 = nI l) (hl12 : l ≤ 12) (hn : I r 4 = nI n) (hn12 : n ≤ 12) (hs : s < 2000) (hO : PlanOK I p nr) (hne : r + 4 < t ∨ t + 9 < r) (hpt : p + 6 < t ∨ t + 9 < p) : Ct E yX8_doStep cX8_doStep 5 none (rmL 5) [.ref t, .ref r, .ref p, .int (nI s)] (S, I, V, J, N) (fun v w' => v = none ∧ w' = (S, tStep I t r p m n l s nr, V, J, N)) := by
  refine Ct.start GE (by decide) rfl (Nat.le_of_ble_eq_true rfl) (fun M X => ?_)
  have X : Cx E M RX8 cX8_doStep 5 (rmL 5) none "doStep" := X
  refine r_loc (L' := [some (.ref t), some (.ref r), some (.ref p), some (.int (nI s)), none]) rfl ?_
  have hT' := hT
  obtain ⟨hs0, hv0, hv1, hv2, hv3, hD, hG, hs8, hs9⟩ := hT
  have hR0 := hR.1
  have hP0 := hP.1
  have H30 : ∀ I1 : Mem, I1 (t + 1) 3 = nI m → I1 t 10 = nI l → I1 r 4 = nI n → PlanOK I1 p nr → tStepZ I1 t r p m n l s nr = tStep I t r p m n l s nr → G E M 0 0 (qQ E M (rmL 5) (fun v w' => v = none ∧ w' = (S, tStep I t r p m n l s nr, V, J, N))) 30 [some (.ref t), some (.ref r), some (.ref p), some (.int (nI s)), none] [] (S, I1, V, J, N) := by
    intro I1 hm1 hl1 hn1 hO1 he
    have hO2 : PlanOK (up2 I1 t 14 (rI (pRule I1 p t r m n l s nr))) p nr := hO1.keep (fun b k a1 a2 => up2_a (by omega))
    refine r_aload_n X dX8_doStep_30 rfl rfl ?_
    refine r_getI X dX8_doStep_31 fX8_45 (by assumption) (by first | assumption | rfl) ?_
    refine r_iconst (v := nI 1) X dX8_doStep_34 (by decide) ?_
    refine r_icmp_ne (tgt := 49) X dX8_doStep_35 (by decide) (fun h35 => ?_) (fun h35 => ?_)
    · skip
      refine r_return X dX8_doStep_49 (by first | omega | decide) (by first | omega | decide) ?_
      exact ⟨rfl, by rw [← he, tStepZ, if_neg (by intro q; first | exact absurd q.1 (by assumption) | exact absurd q.2 (by omega))]⟩
    · skip
      refine r_aload_n X dX8_doStep_38 rfl rfl ?_
      refine r_getI X dX8_doStep_39 fX8_51 (by assumption) (by first | assumption | rfl) ?_
      refine r_aload_n X dX8_doStep_42 rfl rfl ?_
      refine r_getI X dX8_doStep_43 fX8_104 (by assumption) (by first | assumption | rfl) ?_
      refine r_icmpN_lt (tgt := 50) X dX8_doStep_46 (by decide) (by omega) (by omega) (fun h46 => ?_) (fun h46 => ?_)
      · skip
        refine r_aload_n X dX8_doStep_50 rfl rfl ?_
        refine r_aload_n X dX8_doStep_51 rfl rfl ?_
        refine r_aload_n X dX8_doStep_52 rfl rfl ?_
        refine r_aload_n X dX8_doStep_53 rfl rfl ?_
        refine r_iload_n X dX8_doStep_54 rfl rfl ?_
        refine q_callV X dX8_doStep_55 mX8_107 cwX4_ruleFor (c_pRule GE S _ V J N p t r m n l s nr hP hT' hR hm1 hm6 hl1 hl12 hn1 hn12 hs hO1) rfl (by assumption) rfl rfl rfl (Nat.le_of_ble_eq_true rfl) ⟨by decide, by decide⟩ ⟨by first | omega | decide, by first | omega | decide⟩ ?_
        rintro _ _ ⟨rfl, rfl⟩
        refine r_putI X dX8_doStep_58 fX8_63 wX8_63 (by assumption) rfl rfl ?_
        refine r_aload_n X dX8_doStep_61 rfl rfl ?_
        refine r_aload_n X dX8_doStep_62 rfl rfl ?_
        refine r_getI X dX8_doStep_63 fX8_63 (by assumption) (up2_same _ _ _ _) ?_
        refine q_callV X dX8_doStep_66 mX8_113 cwX4_actOfRule (c_pAct GE S _ V J N p nr (pRule I1 p t r m n l s nr) hP hO2.1 hO2.2.1 (fun q hq => fst1_lt hq)) rfl (by assumption) rfl rfl rfl (Nat.le_of_ble_eq_true rfl) ⟨by decide, by decide⟩ ⟨by first | omega | decide, by first | omega | decide⟩ ?_
        rintro _ _ ⟨rfl, rfl⟩
        refine r_istore X dX8_doStep_69 (by decide) rfl ?_
        refine r_iload X dX8_doStep_71 rfl ?_
        refine r_if_ne (tgt := 85) X dX8_doStep_73 (by decide) (fun h73 => ?_) (fun h73 => ?_)
        · skip
          refine r_aload_n X dX8_doStep_85 rfl rfl ?_
          refine r_iload X dX8_doStep_86 rfl ?_
          refine r_aload_n X dX8_doStep_88 rfl rfl ?_
          refine r_iload_n X dX8_doStep_89 rfl rfl ?_
          refine q_callV X dX8_doStep_90 mX8_121 cwX9_coldIn (c_trCold GE S _ V J N r s hR (by omega)) rfl (by assumption) rfl rfl rfl (Nat.le_of_ble_eq_true rfl) ⟨by decide, by decide⟩ ⟨by first | omega | decide, by first | omega | decide⟩ ?_
          rintro _ _ ⟨rfl, rfl⟩
          refine q_callV X dX8_doStep_93 mX8_124 cwX8_pause (c_tPause GE S _ V J N t m _ _ hT' ((up2_a (by omega)).trans hm1) hm6) rfl (by assumption) rfl rfl rfl (Nat.le_of_ble_eq_true rfl) ⟨by decide, by decide⟩ ⟨by first | omega | decide, by first | omega | decide⟩ ?_
          rintro _ _ ⟨rfl, rfl⟩
          refine r_return X dX8_doStep_96 (by first | omega | decide) (by first | omega | decide) ?_
          first | exact ⟨rfl, by rw [← he, tStepZ, if_pos ⟨by assumption, by omega⟩, tActs, if_pos (by assumption)]⟩ | exact ⟨rfl, by rw [← he, tStepZ, if_pos ⟨by assumption, by omega⟩, tActs, if_neg (by assumption)]⟩
        · skip
          refine r_aload_n X dX8_doStep_76 rfl rfl ?_
          refine r_aload_n X dX8_doStep_77 rfl rfl ?_
          refine r_iload_n X dX8_doStep_78 rfl rfl ?_
          refine q_callV X dX8_doStep_79 mX8_117 cwX8_goOn (c_tGo GE S _ V J N t r m n l s hT' hR ((up2_a (by omega)).trans hm1) hm6 ((up2_k (by decide)).trans hl1) (by omega) ((up2_a (by omega)).trans hn1) hn12 hs hne) rfl (by assumption) rfl rfl rfl (Nat.le_of_ble_eq_true rfl) ⟨by decide, by decide⟩ ⟨by first | omega | decide, by first | omega | decide⟩ ?_
          rintro _ _ ⟨rfl, rfl⟩
          refine r_goto (tgt := 96) X dX8_doStep_82 (by decide) ?_
          refine r_return X dX8_doStep_96 (by first | omega | decide) (by first | omega | decide) ?_
          first | exact ⟨rfl, by rw [← he, tStepZ, if_pos ⟨by assumption, by omega⟩, tActs, if_pos (by assumption)]⟩ | exact ⟨rfl, by rw [← he, tStepZ, if_pos ⟨by assumption, by omega⟩, tActs, if_neg (by assumption)]⟩
      · skip
        refine r_return X dX8_doStep_49 (by first | omega | decide) (by first | omega | decide) ?_
        exact ⟨rfl, by rw [← he, tStepZ, if_neg (by intro q; first | exact absurd q.1 (by assumption) | exact absurd q.2 (by omega))]⟩
  refine r_aload_n X dX8_doStep_0 rfl rfl ?_
  refine r_getI X dX8_doStep_1 fX8_45 (by assumption) (by first | assumption | rfl) ?_
  refine r_if_ne (tgt := 30) X dX8_doStep_4 (by decide) (fun h4 => ?_) (fun h4 => ?_)
  · skip
    first | exact H30 _ ((up2_a (by omega)).trans ((up2_a (by omega)).trans hm)) ((up2_a (by omega)).trans ((up2_k (by decide)).trans hl)) ((up2_a (by omega)).trans ((up2_a (by omega)).trans hn)) (hO.keep (fun b k a1 a2 => (up2_a (by omega)).trans (up2_a (by omega)))) (by rw [tStep, tOn, if_pos ⟨by assumption, by assumption⟩]) | exact H30 _ hm hl hn hO (by rw [tStep, tOn, if_neg (by intro q; first | exact absurd q.1 (by assumption) | exact absurd q.2 (by assumption))])
  · skip
    refine r_iload_n X dX8_doStep_7 rfl rfl ?_
    refine r_aload_n X dX8_doStep_8 rfl rfl ?_
    refine r_getI X dX8_doStep_9 fX8_39 (by assumption) (by first | assumption | rfl) ?_
    refine r_icmp_ne (tgt := 30) X dX8_doStep_12 (by decide) (fun h12 => ?_) (fun h12 => ?_)
    · skip
      first | exact H30 _ ((up2_a (by omega)).trans ((up2_a (by omega)).trans hm)) ((up2_a (by omega)).trans ((up2_k (by decide)).trans hl)) ((up2_a (by omega)).trans ((up2_a (by omega)).trans hn)) (hO.keep (fun b k a1 a2 => (up2_a (by omega)).trans (up2_a (by omega)))) (by rw [tStep, tOn, if_pos ⟨by assumption, by assumption⟩]) | exact H30 _ hm hl hn hO (by rw [tStep, tOn, if_neg (by intro q; first | exact absurd q.1 (by assumption) | exact absurd q.2 (by assumption))])
    · skip
      refine r_aload_n X dX8_doStep_15 rfl rfl ?_
      refine r_iconst (v := 1) X dX8_doStep_16 (by decide) ?_
      refine r_putI X dX8_doStep_17 fX8_45 wX8_45 (by assumption) rfl rfl ?_
      refine r_aload_n X dX8_doStep_20 rfl rfl ?_
      refine r_getR X dX8_doStep_21 fX8_25 (by assumption) (by assumption) ?_
      refine r_iconst (v := nI 0) X dX8_doStep_24 (by decide) ?_
      refine r_aload_n X dX8_doStep_25 rfl rfl ?_
      refine r_getI X dX8_doStep_26 fX8_39 (by assumption) (up2_k (by decide)) ?_
      refine r_iastN X dX8_doStep_29 (by assumption) (by omega) (by omega) ?_
      first | exact H30 _ ((up2_a (by omega)).trans ((up2_a (by omega)).trans hm)) ((up2_a (by omega)).trans ((up2_k (by decide)).trans hl)) ((up2_a (by omega)).trans ((up2_a (by omega)).trans hn)) (hO.keep (fun b k a1 a2 => (up2_a (by omega)).trans (up2_a (by omega)))) (by rw [tStep, tOn, if_pos ⟨by assumption, by assumption⟩]) | exact H30 _ hm hl hn hO (by rw [tStep, tOn, if_neg (by intro q; first | exact absurd q.1 (by assumption) | exact absurd q.2 (by assumption))])
def RaceSh (S : Nat → Option (Nat × Nat)) (V : Nat → Nat → Option Nat) (r : Nat) : Prop := S r = some (4, 0) ∧ V r 0 = some (r + 1) ∧ V r 1 = some (r + 6) ∧ TrailSh S V (r + 1) ∧ S (r + 6) = some (105, 6) ∧ ∀ i, i < 6 → V (r + 6) i = some (r + 7 + 10 * i) ∧ TeamSh S V (r + 7 + 10 * i)
def rCan (I : Mem) (r c s : Nat) : Bool := decide (s < 2000) && (List.range c).any fun i => !tThrough I (r + 7 + 10 * i)
theorem rCan_no {I : Mem} {r c s : Nat} (h : ∀ i, i < c → tThrough I (r + 7 + 10 * i) = true) : rCan I r c s = false := by
  unfold rCan
  rw [Bool.and_eq_false_iff]
  right
  rw [List.any_eq_false]
  intro i hi
  rw [h i (List.mem_range.mp hi)]
  decide
theorem rCan_yes {I : Mem} {r c s : Nat} (hs : s < 2000) (i : Nat) (hi : i < c) (h : tThrough I (r + 7 + 10 * i) = false) : rCan I r c s = true := by
  unfold rCan
  rw [Bool.and_eq_true]
  refine ⟨by simpa using hs, ?_⟩
  rw [List.any_eq_true]
  exact ⟨i, List.mem_range.mpr hi, by rw [h]; rfl⟩
set_option maxHeartbeats 2000000 in
set_option maxRecDepth 20000 in
/-- SledHouse$Race.canStep -/
theorem c_rCan {E : Ev} (GE : Glob E) (S : Nat → Option (Nat × Nat)) (I : Nat → Nat → Int32) (V : Nat → Nat → Option Nat) (J : Nat → Nat → Int64) (N : Nat) (r c s : Nat) (hR : RaceSh S V r) (hc : I r 2 = nI c) (hc6 : c ≤ 6) (hs : I r 3 = nI s) (hs2 : s ≤ 2000) : Ct E yX5_canStep cX5_canStep 2 (some .boolean) (rmL 1) [.ref r] (S, I, V, J, N) (fun v w' => v = some (.int (bI (rCan I r c s))) ∧ w' = (S, I, V, J, N)) := by
  refine Ct.start GE (by decide) rfl (Nat.le_of_ble_eq_true rfl) (fun M X => ?_)
  have X : Cx E M RX5 cX5_canStep 2 (rmL 1) (some .boolean) "canStep" := X
  refine r_loc (L' := [some (.ref r), none]) rfl ?_
  obtain ⟨hs0, hv0, hv1, hTr, hs6, hTe⟩ := hR
  refine r_aload_n X dX5_canStep_0 rfl rfl ?_
  refine r_getI X dX5_canStep_1 fX5_28 (by assumption) (by first | assumption | rfl) ?_
  refine r_sipush (v := nI 2000) X dX5_canStep_4 (by decide) ?_
  refine r_icmpN_lt (tgt := 12) X dX5_canStep_7 (by decide) (by omega) (by omega) (fun h7 => ?_) (fun h7 => ?_)
  · skip
    refine r_iconst (v := nI 0) X dX5_canStep_12 (by decide) ?_
    refine r_istore_n X dX5_canStep_13 rfl (by decide) rfl ?_
    have H : ∀ j, j ≤ c → (∀ i, i < j → tThrough I (r + 7 + 10 * i) = true) → G E M 0 0 (qQ E M (rmL 1) (fun v w' => v = some (.int (bI (rCan I r c s))) ∧ w' = (S, I, V, J, N))) 14 [some (.ref r), some (.int (nI j))] [] (S, I, V, J, N) := by
      refine loopN c (fun j hj ih => ?_)
      intro hno
      refine r_iload_n X dX5_canStep_14 rfl rfl ?_
      refine r_aload_n X dX5_canStep_15 rfl rfl ?_
      refine r_getI X dX5_canStep_16 fX5_24 (by assumption) (by first | assumption | rfl) ?_
      refine r_icmpN_ge (tgt := 42) X dX5_canStep_19 (by decide) (by omega) (by omega) (fun h19 => ?_) (fun h19 => ?_)
      · skip
        refine r_iconst (v := 0) X dX5_canStep_42 (by decide) ?_
        refine r_ireturn X dX5_canStep_43 rfl (by first | omega | decide) (by first | omega | decide) ?_
        obtain rfl : j = c := by omega
        exact ⟨by rw [rCan_no hno]; rfl, rfl⟩
      · skip
        refine r_aload_n X dX5_canStep_22 rfl rfl ?_
        refine r_getR X dX5_canStep_23 fX5_20 (by assumption) (by assumption) ?_
        refine r_iload_n X dX5_canStep_26 rfl rfl ?_
        refine r_aaldN X dX5_canStep_27 (by assumption) (by decide) rfl (by omega) (by omega) (hTe j (by omega)).1 ?_
        refine q_callV X dX5_canStep_28 mX5_42 cwX8_isThrough (c_tThrough GE S I V J N _ (hTe j (by omega)).2) rfl ((hTe j (by omega)).2.1) rfl rfl rfl (Nat.le_of_ble_eq_true rfl) ⟨by decide, by decide⟩ ⟨by first | omega | decide, by first | omega | decide⟩ ?_
        rintro _ _ ⟨rfl, rfl⟩
        refine r_if_ne (tgt := 36) X dX5_canStep_31 (by decide) (fun h31 => ?_) (fun h31 => ?_)
        · skip
          first | refine r_iincN X dX5_canStep_36 rfl (by decide) rfl ?_ | refine r_iinc X dX5_canStep_36 rfl rfl (by decide) rfl ?_
          refine r_goto (tgt := 14) X dX5_canStep_39 (by decide) ?_
          refine ih (by omega) (fun i hi => ?_)
          rcases Nat.lt_or_ge i j with z | z
          · exact hno i z
          · obtain rfl : i = j := by omega
            exact bI_1 h31
        · skip
          refine r_iconst (v := 1) X dX5_canStep_34 (by decide) ?_
          refine r_ireturn X dX5_canStep_35 rfl (by first | omega | decide) (by first | omega | decide) ?_
          exact ⟨by rw [rCan_yes (by omega) j (by omega) (bI_0 h31)]; rfl, rfl⟩
    exact H 0 (by omega) (fun i hi => absurd hi (by omega))
  · skip
    refine r_iconst (v := 0) X dX5_canStep_10 (by decide) ?_
    refine r_ireturn X dX5_canStep_11 rfl (by first | omega | decide) (by first | omega | decide) ?_
    exact ⟨by rw [show rCan I r c s = false by simp [rCan]; omega]; rfl, rfl⟩
def rCopyT (I : Mem) (r e : Nat) : Nat → Mem
  | 0 => I
  | j + 1 => tCopy (rCopyT I r e j) (r + 7 + 10 * j) (e + 7 + 10 * j)
theorem tCopy_a {I : Mem} {t e b k : Nat} (h : b < t ∨ t + 9 < b) : tCopy I t e b k = I b k := by
  unfold tCopy
  rw [if_neg (by omega), if_neg (by omega), if_neg (by omega), gCopy_a (by omega) (by omega) (by omega), dCopy_a (by omega) (by omega) (by omega) (by omega)]
theorem rCopyT_a {I : Mem} {r e b k : Nat} : ∀ (j : Nat), (b < r + 7 ∨ r + 6 + 10 * j < b) → rCopyT I r e j b k = I b k
  | 0, _ => rfl
  | j + 1, h => by rw [rCopyT, tCopy_a (by omega)]; exact rCopyT_a j (by omega)
def rCopy (I : Mem) (r e c : Nat) : Mem := up2 (up2 (up2 (rCopyT (trCopy I (r + 1) (e + 1)) r e c) r 2 (I e 2)) r 3 (I e 3)) r 4 (I e 4)
theorem trCopy_a {I : Mem} {r e b k : Nat} (h : b < r ∨ r + 4 < b) : trCopy I r e b k = I b k := by
  unfold trCopy
  rw [if_neg (by omega), if_neg (by omega), if_neg (by omega), if_neg (by omega), if_neg (by omega)]
set_option maxHeartbeats 2000000 in
set_option maxRecDepth 20000 in
/-- SledHouse$Race.copyFrom -/
theorem c_rCopy {E : Ev} (GE : Glob E) (S : Nat → Option (Nat × Nat)) (I : Nat → Nat → Int32) (V : Nat → Nat → Option Nat) (J : Nat → Nat → Int64) (N : Nat) (r e c : Nat) (hR : RaceSh S V r) (hE : RaceSh S V e) (hc : I e 2 = nI c) (hc6 : c ≤ 6) (hne : e + 66 < r ∨ r + 66 < e) : Ct E yX5_copyFrom cX5_copyFrom 3 none (rmL 3) [.ref r, .ref e] (S, I, V, J, N) (fun v w' => v = none ∧ w' = (S, rCopy I r e c, V, J, N)) := by
  refine Ct.start GE (by decide) rfl (Nat.le_of_ble_eq_true rfl) (fun M X => ?_)
  have X : Cx E M RX5 cX5_copyFrom 3 (rmL 3) none "copyFrom" := X
  refine r_loc (L' := [some (.ref r), some (.ref e), none]) rfl ?_
  obtain ⟨hs0, hv0, hv1, hTr, hs6, hTe⟩ := hR
  obtain ⟨es0, ev0, ev1, eTr, es6, eTe⟩ := hE
  have hTr0 := hTr.1
  have hb : ∀ j k, j ≤ 6 → rCopyT (trCopy I (r + 1) (e + 1)) r e j e k = I e k := fun j k hj => (rCopyT_a j (by omega)).trans (trCopy_a (by omega))
  refine r_aload_n X dX5_copyFrom_0 rfl rfl ?_
  refine r_getR X dX5_copyFrom_1 fX5_12 (by assumption) (by assumption) ?_
  refine r_aload_n X dX5_copyFrom_4 rfl rfl ?_
  refine r_getR X dX5_copyFrom_5 fX5_12 (by assumption) (by assumption) ?_
  refine q_callV X dX5_copyFrom_8 mX5_35 cwX9_copyFrom (c_trCopy GE S I V J N (r + 1) (e + 1) hTr eTr (by omega)) rfl (by assumption) rfl rfl rfl (Nat.le_of_ble_eq_true rfl) ⟨by decide, by decide⟩ ⟨by first | omega | decide, by first | omega | decide⟩ ?_
  rintro _ _ ⟨rfl, rfl⟩
  refine r_iconst (v := nI 0) X dX5_copyFrom_11 (by decide) ?_
  refine r_istore_n X dX5_copyFrom_12 rfl (by decide) rfl ?_
  have H : ∀ j, j ≤ c → G E M 0 0 (qQ E M (rmL 3) (fun v w' => v = none ∧ w' = (S, rCopy I r e c, V, J, N))) 13 [some (.ref r), some (.ref e), some (.int (nI j))] [] (S, rCopyT (trCopy I (r + 1) (e + 1)) r e j, V, J, N) := by
    refine loopN c (fun j hj ih => ?_)
    have hj2 := (hb j 2 (by omega)).trans hc
    refine r_iload_n X dX5_copyFrom_13 rfl rfl ?_
    refine r_aload_n X dX5_copyFrom_14 rfl rfl ?_
    refine r_getI X dX5_copyFrom_15 fX5_24 (by assumption) (by first | assumption | rfl) ?_
    refine r_icmpN_ge (tgt := 42) X dX5_copyFrom_18 (by decide) (by omega) (by omega) (fun h18 => ?_) (fun h18 => ?_)
    · skip
      refine r_aload_n X dX5_copyFrom_42 rfl rfl ?_
      refine r_aload_n X dX5_copyFrom_43 rfl rfl ?_
      refine r_getI X dX5_copyFrom_44 fX5_24 (by assumption) (hb j 2 (by omega)) ?_
      refine r_putI X dX5_copyFrom_47 fX5_24 wX5_24 (by assumption) rfl rfl ?_
      refine r_aload_n X dX5_copyFrom_50 rfl rfl ?_
      refine r_aload_n X dX5_copyFrom_51 rfl rfl ?_
      refine r_getI X dX5_copyFrom_52 fX5_28 (by assumption) ((up2_a (by omega)).trans (hb j 3 (by omega))) ?_
      refine r_putI X dX5_copyFrom_55 fX5_28 wX5_28 (by assumption) rfl rfl ?_
      refine r_aload_n X dX5_copyFrom_58 rfl rfl ?_
      refine r_aload_n X dX5_copyFrom_59 rfl rfl ?_
      refine r_getI X dX5_copyFrom_60 fX5_31 (by assumption) ((up2_a (by omega)).trans ((up2_a (by omega)).trans (hb j 4 (by omega)))) ?_
      refine r_putI X dX5_copyFrom_63 fX5_31 wX5_31 (by assumption) rfl rfl ?_
      refine r_return X dX5_copyFrom_66 (by first | omega | decide) (by first | omega | decide) ?_
      obtain rfl : j = c := by omega
      exact ⟨rfl, rfl⟩
    · skip
      refine r_aload_n X dX5_copyFrom_21 rfl rfl ?_
      refine r_getR X dX5_copyFrom_22 fX5_20 (by assumption) (by assumption) ?_
      refine r_iload_n X dX5_copyFrom_25 rfl rfl ?_
      refine r_aaldN X dX5_copyFrom_26 (by assumption) (by decide) rfl (by omega) (by omega) (hTe j (by omega)).1 ?_
      refine r_aload_n X dX5_copyFrom_27 rfl rfl ?_
      refine r_getR X dX5_copyFrom_28 fX5_20 (by assumption) (by assumption) ?_
      refine r_iload_n X dX5_copyFrom_31 rfl rfl ?_
      refine r_aaldN X dX5_copyFrom_32 (by assumption) (by decide) rfl (by omega) (by omega) (eTe j (by omega)).1 ?_
      refine q_callV X dX5_copyFrom_33 mX5_39 cwX8_copyFrom (c_tCopy GE S _ V J N _ _ (hTe j (by omega)).2 (eTe j (by omega)).2 (by omega)) rfl ((hTe j (by omega)).2.1) rfl rfl rfl (Nat.le_of_ble_eq_true rfl) ⟨by decide, by decide⟩ ⟨by first | omega | decide, by first | omega | decide⟩ ?_
      rintro _ _ ⟨rfl, rfl⟩
      first | refine r_iincN X dX5_copyFrom_36 rfl (by decide) rfl ?_ | refine r_iinc X dX5_copyFrom_36 rfl rfl (by decide) rfl ?_
      refine r_goto (tgt := 13) X dX5_copyFrom_39 (by decide) ?_
      exact ih (by omega)
  exact H 0 (by omega)
