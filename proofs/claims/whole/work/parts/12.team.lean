/-! ===== SledHouse$Gaps, SledHouse$Trail ===== -/
abbrev Mem : Type := Nat → Nat → Int32
def GapsSh (S : Nat → Option (Nat × Nat)) (V : Nat → Nat → Option Nat) (g : Nat) : Prop := S g = some (1, 0) ∧ V g 0 = some (g + 1) ∧ V g 1 = some (g + 2) ∧ S (g + 1) = some (100, 4) ∧ S (g + 2) = some (100, 4)
def gAdd (I : Mem) (g k : Nat) (x y : Int32) : Mem := up2 (up2 (up2 I (g + 1) k x) (g + 2) k y) g 2 (nI (k + 1))
set_option maxHeartbeats 2000000 in
set_option maxRecDepth 20000 in
/-- SledHouse$Gaps.add -/
theorem c_gAdd {E : Ev} (GE : Glob E) (S : Nat → Option (Nat × Nat)) (I : Nat → Nat → Int32) (V : Nat → Nat → Option Nat) (J : Nat → Nat → Int64) (N : Nat) (g k : Nat) (x y : Int32) (hG : GapsSh S V g) (hk : I g 2 = nI k) (hk4 : k < 4) : Ct E yX1_add cX1_add 3 none (rmL 0) [.ref g, .int x, .int y] (S, I, V, J, N) (fun v w' => v = none ∧ w' = (S, gAdd I g k x y, V, J, N)) := by
  refine Ct.start GE (by decide) rfl (Nat.le_of_ble_eq_true rfl) (fun M X => ?_)
  have X : Cx E M RX1 cX1_add 3 (rmL 0) none "add" := X
  refine r_loc (L' := [some (.ref g), some (.int x), some (.int y)]) rfl ?_
  obtain ⟨hs0, hv0, hv1, hs1, hs2⟩ := hG
  refine r_aload_n X dX1_add_0 rfl rfl ?_
  refine r_getI X dX1_add_1 fX1_18 (by assumption) (by first | assumption | rfl) ?_
  refine r_iconst (v := nI 4) X dX1_add_4 (by decide) ?_
  refine r_icmpN_ge (tgt := 38) X dX1_add_5 (by decide) (by omega) (by omega) (fun h5 => ?_) (fun h5 => ?_)
  · skip
    omega
  · skip
    refine r_aload_n X dX1_add_8 rfl rfl ?_
    refine r_getR X dX1_add_9 fX1_9 (by assumption) (by assumption) ?_
    refine r_aload_n X dX1_add_12 rfl rfl ?_
    refine r_getI X dX1_add_13 fX1_18 (by assumption) (by first | assumption | rfl) ?_
    refine r_iload_n X dX1_add_16 rfl rfl ?_
    refine r_iastN X dX1_add_17 (by assumption) (by omega) (by omega) ?_
    refine r_aload_n X dX1_add_18 rfl rfl ?_
    refine r_getR X dX1_add_19 fX1_15 (by assumption) (by assumption) ?_
    refine r_aload_n X dX1_add_22 rfl rfl ?_
    refine r_getI X dX1_add_23 fX1_18 (by assumption) ((up2_a (by omega)).trans hk) ?_
    refine r_iload_n X dX1_add_26 rfl rfl ?_
    refine r_iastN X dX1_add_27 (by assumption) (by omega) (by omega) ?_
    refine r_aload_n X dX1_add_28 rfl rfl ?_
    refine r_dup X dX1_add_29 rfl ?_
    refine r_getI X dX1_add_30 fX1_18 (by assumption) ((up2_a (by omega)).trans ((up2_a (by omega)).trans hk)) ?_
    refine r_iconst (v := 1) X dX1_add_33 (by decide) ?_
    refine r_iadd X dX1_add_34 ?_
    rw [show nI k + 1 = nI (k + 1) from nI_1 k]
    refine r_putI X dX1_add_35 fX1_18 wX1_18 (by assumption) rfl rfl ?_
    refine r_return X dX1_add_38 (by first | omega | decide) (by first | omega | decide) ?_
    exact ⟨rfl, rfl⟩
/-- some gap k' < m of g has the step in it -/
def gHide (I : Mem) (g m : Nat) (s : Int32) : Bool := (List.range m).any fun k => decide (I (g + 1) k ≤ s) && decide (s ≤ I (g + 2) k)
def bI (b : Bool) : Int32 := if b then 1 else 0
theorem gHide_no {I : Mem} {g m : Nat} {s : Int32} (h : ∀ k, k < m → ¬ (I (g + 1) k ≤ s ∧ s ≤ I (g + 2) k)) : gHide I g m s = false := by
  unfold gHide
  rw [List.any_eq_false]
  intro k hk
  have := h k (List.mem_range.mp hk)
  simpa using this
theorem gHide_yes {I : Mem} {g m : Nat} {s : Int32} (k : Nat) (hk : k < m) (h1 : I (g + 1) k ≤ s) (h2 : s ≤ I (g + 2) k) : gHide I g m s = true := by
  unfold gHide
  rw [List.any_eq_true]
  exact ⟨k, List.mem_range.mpr hk, by simp [h1, h2]⟩
set_option maxHeartbeats 2000000 in
set_option maxRecDepth 20000 in
/-- SledHouse$Gaps.hide -/
theorem c_gHide {E : Ev} (GE : Glob E) (S : Nat → Option (Nat × Nat)) (I : Nat → Nat → Int32) (V : Nat → Nat → Option Nat) (J : Nat → Nat → Int64) (N : Nat) (g m : Nat) (s : Int32) (hG : GapsSh S V g) (hm : I g 2 = nI m) (hm4 : m ≤ 4) : Ct E yX1_hide cX1_hide 3 (some .boolean) (rmL 0) [.ref g, .int s] (S, I, V, J, N) (fun v w' => v = some (.int (bI (gHide I g m s))) ∧ w' = (S, I, V, J, N)) := by
  refine Ct.start GE (by decide) rfl (Nat.le_of_ble_eq_true rfl) (fun M X => ?_)
  have X : Cx E M RX1 cX1_hide 3 (rmL 0) (some .boolean) "hide" := X
  refine r_loc (L' := [some (.ref g), some (.int s), none]) rfl ?_
  obtain ⟨hs0, hv0, hv1, hs1, hs2⟩ := hG
  refine r_iconst (v := nI 0) X dX1_hide_0 (by decide) ?_
  refine r_istore_n X dX1_hide_1 rfl (by decide) rfl ?_
  have H : ∀ j, j ≤ m → (∀ k, k < j → ¬ (I (g + 1) k ≤ s ∧ s ≤ I (g + 2) k)) → G E M 0 0 (qQ E M (rmL 0) (fun v w' => v = some (.int (bI (gHide I g m s))) ∧ w' = (S, I, V, J, N))) 2 [some (.ref g), some (.int s), some (.int (nI j))] [] (S, I, V, J, N) := by
    refine loopN m (fun j hj ih => ?_)
    intro hno
    refine r_iload_n X dX1_hide_2 rfl rfl ?_
    refine r_aload_n X dX1_hide_3 rfl rfl ?_
    refine r_getI X dX1_hide_4 fX1_18 (by assumption) (by first | assumption | rfl) ?_
    refine r_icmpN_ge (tgt := 38) X dX1_hide_7 (by decide) (by omega) (by omega) (fun h7 => ?_) (fun h7 => ?_)
    · skip
      refine r_iconst (v := 0) X dX1_hide_38 (by decide) ?_
      refine r_ireturn X dX1_hide_39 rfl (by first | omega | decide) (by first | omega | decide) ?_
      obtain rfl : j = m := by omega
      exact ⟨by rw [gHide_no hno]; rfl, rfl⟩
    · skip
      refine r_iload_n X dX1_hide_10 rfl rfl ?_
      refine r_aload_n X dX1_hide_11 rfl rfl ?_
      refine r_getR X dX1_hide_12 fX1_9 (by assumption) (by assumption) ?_
      refine r_iload_n X dX1_hide_15 rfl rfl ?_
      refine r_ialdN X dX1_hide_16 (by assumption) (by omega) (by omega) (by first | assumption | rfl) ?_
      refine r_icmp_lt (tgt := 32) X dX1_hide_17 (by decide) (fun h17 => ?_) (fun h17 => ?_)
      · skip
        first | refine r_iincN X dX1_hide_32 rfl (by decide) rfl ?_ | refine r_iinc X dX1_hide_32 rfl rfl (by decide) rfl ?_
        refine r_goto (tgt := 2) X dX1_hide_35 (by decide) ?_
        refine ih (by omega) (fun k hk => ?_)
        rcases Nat.lt_or_ge k j with q | q
        · exact hno k q
        · obtain rfl : k = j := by omega
          first | exact (fun z => absurd h17 (Int32.not_lt.mpr z.1)) | exact (fun z => absurd h27 (Int32.not_lt.mpr z.2))
      · skip
        refine r_iload_n X dX1_hide_20 rfl rfl ?_
        refine r_aload_n X dX1_hide_21 rfl rfl ?_
        refine r_getR X dX1_hide_22 fX1_15 (by assumption) (by assumption) ?_
        refine r_iload_n X dX1_hide_25 rfl rfl ?_
        refine r_ialdN X dX1_hide_26 (by assumption) (by omega) (by omega) (by first | assumption | rfl) ?_
        refine r_icmp_gt (tgt := 32) X dX1_hide_27 (by decide) (fun h27 => ?_) (fun h27 => ?_)
        · skip
          first | refine r_iincN X dX1_hide_32 rfl (by decide) rfl ?_ | refine r_iinc X dX1_hide_32 rfl rfl (by decide) rfl ?_
          refine r_goto (tgt := 2) X dX1_hide_35 (by decide) ?_
          refine ih (by omega) (fun k hk => ?_)
          rcases Nat.lt_or_ge k j with q | q
          · exact hno k q
          · obtain rfl : k = j := by omega
            first | exact (fun z => absurd h17 (Int32.not_lt.mpr z.1)) | exact (fun z => absurd h27 (Int32.not_lt.mpr z.2))
        · skip
          refine r_iconst (v := 1) X dX1_hide_30 (by decide) ?_
          refine r_ireturn X dX1_hide_31 rfl (by first | omega | decide) (by first | omega | decide) ?_
          exact ⟨by rw [gHide_yes j (by omega) (Int32.not_lt.mp h17) (Int32.not_lt.mp h27)]; rfl, rfl⟩
  exact H 0 (by omega) (fun k hk => absurd hk (by omega))
def gCopy (I : Mem) (g e : Nat) : Mem := fun b k => if b = g ∧ k = 2 then I e k else if b = g + 1 ∧ k < 4 then I (e + 1) k else if b = g + 2 ∧ k < 4 then I (e + 2) k else I b k
theorem gCopy_eq (I : Mem) (g e : Nat) (hne : e + 2 < g ∨ g + 2 < e) : up2 (cpyI (cpyI I (e + 1) (g + 1) 0 0 4) (e + 2) (g + 2) 0 0 4) g 2 (I e 2) = gCopy I g e := by
  funext b k
  unfold gCopy up2 cpyI
  by_cases h0 : b = g
  · subst h0
    by_cases h3 : k = 2
    · subst h3; simp
    · simp [h3]
  · by_cases h1 : b = g + 1
    · subst h1
      simp
    · by_cases h2 : b = g + 2
      · subst h2
        simp [show ¬ e + 2 = g + 1 by omega]
      · simp [h0, h1, h2]
set_option maxHeartbeats 2000000 in
set_option maxRecDepth 20000 in
/-- SledHouse$Gaps.copyFrom -/
theorem c_gCopy {E : Ev} (GE : Glob E) (S : Nat → Option (Nat × Nat)) (I : Nat → Nat → Int32) (V : Nat → Nat → Option Nat) (J : Nat → Nat → Int64) (N : Nat) (g e : Nat) (hG : GapsSh S V g) (hE : GapsSh S V e) (hne : e + 2 < g ∨ g + 2 < e) : Ct E yX1_copyFrom cX1_copyFrom 2 none (rmL 1) [.ref g, .ref e] (S, I, V, J, N) (fun v w' => v = none ∧ w' = (S, gCopy I g e, V, J, N)) := by
  refine Ct.start GE (by decide) rfl (Nat.le_of_ble_eq_true rfl) (fun M X => ?_)
  have X : Cx E M RX1 cX1_copyFrom 2 (rmL 1) none "copyFrom" := X
  refine r_loc (L' := [some (.ref g), some (.ref e)]) rfl ?_
  obtain ⟨hs0, hv0, hv1, hs1, hs2⟩ := hG
  obtain ⟨gs0, gv0, gv1, gs1, gs2⟩ := hE
  refine r_aload_n X dX1_copyFrom_0 rfl rfl ?_
  refine r_getR X dX1_copyFrom_1 fX1_9 (by assumption) (by assumption) ?_
  refine r_iconst (v := nI 0) X dX1_copyFrom_4 (by decide) ?_
  refine r_aload_n X dX1_copyFrom_5 rfl rfl ?_
  refine r_getR X dX1_copyFrom_6 fX1_9 (by assumption) (by assumption) ?_
  refine r_iconst (v := nI 0) X dX1_copyFrom_9 (by decide) ?_
  refine r_iconst (v := nI 4) X dX1_copyFrom_10 (by decide) ?_
  refine r_copyI X dX1_copyFrom_11 mmX1_22 (by assumption) (by assumption) (by omega) (by omega) (by omega) (by omega) (by decide) (Nat.le_of_ble_eq_true rfl) ?_
  refine r_aload_n X dX1_copyFrom_14 rfl rfl ?_
  refine r_getR X dX1_copyFrom_15 fX1_15 (by assumption) (by assumption) ?_
  refine r_iconst (v := nI 0) X dX1_copyFrom_18 (by decide) ?_
  refine r_aload_n X dX1_copyFrom_19 rfl rfl ?_
  refine r_getR X dX1_copyFrom_20 fX1_15 (by assumption) (by assumption) ?_
  refine r_iconst (v := nI 0) X dX1_copyFrom_23 (by decide) ?_
  refine r_iconst (v := nI 4) X dX1_copyFrom_24 (by decide) ?_
  refine r_copyI X dX1_copyFrom_25 mmX1_22 (by assumption) (by assumption) (by omega) (by omega) (by omega) (by omega) (by decide) (Nat.le_of_ble_eq_true rfl) ?_
  refine r_aload_n X dX1_copyFrom_28 rfl rfl ?_
  refine r_aload_n X dX1_copyFrom_29 rfl rfl ?_
  refine r_getI X dX1_copyFrom_30 fX1_18 (by assumption) ((cpyI_a (by omega)).trans (cpyI_a (by omega))) ?_
  refine r_putI X dX1_copyFrom_33 fX1_18 wX1_18 (by assumption) rfl rfl ?_
  refine r_return X dX1_copyFrom_36 (by first | omega | decide) (by first | omega | decide) ?_
  exact ⟨rfl, by rw [gCopy_eq I g e hne]⟩
def TrailSh (S : Nat → Option (Nat × Nat)) (V : Nat → Nat → Option Nat) (r : Nat) : Prop := S r = some (8, 0) ∧ V r 0 = some (r + 1) ∧ V r 1 = some (r + 2) ∧ V r 2 = some (r + 3) ∧ V r 3 = some (r + 4) ∧ S (r + 1) = some (100, 12) ∧ S (r + 2) = some (100, 12) ∧ S (r + 3) = some (100, 13) ∧ S (r + 4) = some (100, 334)
def trAdd (I : Mem) (r n : Nat) (x h : Int32) : Mem := up2 (up2 (up2 (up2 I (r + 1) n x) (r + 2) n h) (r + 3) (n + 1) (I (r + 3) n + x)) r 4 (nI (n + 1))
set_option maxHeartbeats 2000000 in
set_option maxRecDepth 20000 in
/-- SledHouse$Trail.add -/
theorem c_trAdd {E : Ev} (GE : Glob E) (S : Nat → Option (Nat × Nat)) (I : Nat → Nat → Int32) (V : Nat → Nat → Option Nat) (J : Nat → Nat → Int64) (N : Nat) (r n : Nat) (x h : Int32) (hT : TrailSh S V r) (hn : I r 4 = nI n) (hn12 : n < 12) : Ct E yX9_add cX9_add 3 none (rmL 0) [.ref r, .int x, .int h] (S, I, V, J, N) (fun v w' => v = none ∧ w' = (S, trAdd I r n x h, V, J, N)) := by
  refine Ct.start GE (by decide) rfl (Nat.le_of_ble_eq_true rfl) (fun M X => ?_)
  have X : Cx E M RX9 cX9_add 3 (rmL 0) none "add" := X
  refine r_loc (L' := [some (.ref r), some (.int x), some (.int h)]) rfl ?_
  obtain ⟨hs0, hv0, hv1, hv2, hv3, hs1, hs2, hs3, hs4⟩ := hT
  refine r_aload_n X dX9_add_0 rfl rfl ?_
  refine r_getR X dX9_add_1 fX9_9 (by assumption) (by assumption) ?_
  refine r_aload_n X dX9_add_4 rfl rfl ?_
  refine r_getI X dX9_add_5 fX9_24 (by assumption) (by first | assumption | rfl) ?_
  refine r_iload_n X dX9_add_8 rfl rfl ?_
  refine r_iastN X dX9_add_9 (by assumption) (by omega) (by omega) ?_
  refine r_aload_n X dX9_add_10 rfl rfl ?_
  refine r_getR X dX9_add_11 fX9_15 (by assumption) (by assumption) ?_
  refine r_aload_n X dX9_add_14 rfl rfl ?_
  refine r_getI X dX9_add_15 fX9_24 (by assumption) ((up2_a (by omega)).trans hn) ?_
  refine r_iload_n X dX9_add_18 rfl rfl ?_
  refine r_iastN X dX9_add_19 (by assumption) (by omega) (by omega) ?_
  refine r_aload_n X dX9_add_20 rfl rfl ?_
  refine r_getR X dX9_add_21 fX9_18 (by assumption) (by assumption) ?_
  refine r_aload_n X dX9_add_24 rfl rfl ?_
  refine r_getI X dX9_add_25 fX9_24 (by assumption) ((up2_a (by omega)).trans ((up2_a (by omega)).trans hn)) ?_
  refine r_iconst (v := 1) X dX9_add_28 (by decide) ?_
  refine r_iadd X dX9_add_29 ?_
  refine r_topi (nI (n + 1)) (nI_1 n) ?_
  refine r_aload_n X dX9_add_30 rfl rfl ?_
  refine r_getR X dX9_add_31 fX9_18 (by assumption) (by assumption) ?_
  refine r_aload_n X dX9_add_34 rfl rfl ?_
  refine r_getI X dX9_add_35 fX9_24 (by assumption) ((up2_a (by omega)).trans ((up2_a (by omega)).trans hn)) ?_
  refine r_ialdN X dX9_add_38 (by assumption) (by omega) (by omega) ((up2_a (by omega)).trans (up2_a (by omega))) ?_
  refine r_iload_n X dX9_add_39 rfl rfl ?_
  refine r_iadd X dX9_add_40 ?_
  refine r_iastN X dX9_add_41 (by assumption) (by omega) (by omega) ?_
  refine r_aload_n X dX9_add_42 rfl rfl ?_
  refine r_dup X dX9_add_43 rfl ?_
  refine r_getI X dX9_add_44 fX9_24 (by assumption) ((up2_a (by omega)).trans ((up2_a (by omega)).trans ((up2_a (by omega)).trans hn))) ?_
  refine r_iconst (v := 1) X dX9_add_47 (by decide) ?_
  refine r_iadd X dX9_add_48 ?_
  refine r_topi (nI (n + 1)) (nI_1 n) ?_
  refine r_putI X dX9_add_49 fX9_24 wX9_24 (by assumption) rfl rfl ?_
  refine r_return X dX9_add_52 (by first | omega | decide) (by first | omega | decide) ?_
  exact ⟨rfl, rfl⟩
set_option maxHeartbeats 2000000 in
set_option maxRecDepth 20000 in
/-- SledHouse$Trail.whole -/
theorem c_trWhole {E : Ev} (GE : Glob E) (S : Nat → Option (Nat × Nat)) (I : Nat → Nat → Int32) (V : Nat → Nat → Option Nat) (J : Nat → Nat → Int64) (N : Nat) (r n : Nat) (hT : TrailSh S V r) (hn : I r 4 = nI n) (hn12 : n ≤ 12) : Ct E yX9_whole cX9_whole 1 (some .int) (rmL 0) [.ref r] (S, I, V, J, N) (fun v w' => v = some (.int (I (r + 3) n)) ∧ w' = (S, I, V, J, N)) := by
  refine Ct.start GE (by decide) rfl (Nat.le_of_ble_eq_true rfl) (fun M X => ?_)
  have X : Cx E M RX9 cX9_whole 1 (rmL 0) (some .int) "whole" := X
  refine r_loc (L' := [some (.ref r)]) rfl ?_
  obtain ⟨hs0, hv0, hv1, hv2, hv3, hs1, hs2, hs3, hs4⟩ := hT
  refine r_aload_n X dX9_whole_0 rfl rfl ?_
  refine r_getR X dX9_whole_1 fX9_18 (by assumption) (by assumption) ?_
  refine r_aload_n X dX9_whole_4 rfl rfl ?_
  refine r_getI X dX9_whole_5 fX9_24 (by assumption) (by first | assumption | rfl) ?_
  refine r_ialdN X dX9_whole_8 (by assumption) (by omega) (by omega) (by first | assumption | rfl) ?_
  refine r_ireturn X dX9_whole_9 rfl (by first | omega | decide) (by first | omega | decide) ?_
  exact ⟨rfl, rfl⟩
def lenOf (I : Mem) (r n l : Nat) : Int32 := if l < n then I (r + 1) l else 0
set_option maxHeartbeats 2000000 in
set_option maxRecDepth 20000 in
/-- SledHouse$Trail.lengthOf -/
theorem c_trLen {E : Ev} (GE : Glob E) (S : Nat → Option (Nat × Nat)) (I : Nat → Nat → Int32) (V : Nat → Nat → Option Nat) (J : Nat → Nat → Int64) (N : Nat) (r n l : Nat) (hT : TrailSh S V r) (hn : I r 4 = nI n) (hn12 : n ≤ 12) (hl : l < 100) : Ct E yX9_lengthOf cX9_lengthOf 2 (some .int) (rmL 0) [.ref r, .int (nI l)] (S, I, V, J, N) (fun v w' => v = some (.int (lenOf I r n l)) ∧ w' = (S, I, V, J, N)) := by
  refine Ct.start GE (by decide) rfl (Nat.le_of_ble_eq_true rfl) (fun M X => ?_)
  have X : Cx E M RX9 cX9_lengthOf 2 (rmL 0) (some .int) "lengthOf" := X
  refine r_loc (L' := [some (.ref r), some (.int (nI l))]) rfl ?_
  obtain ⟨hs0, hv0, hv1, hv2, hv3, hs1, hs2, hs3, hs4⟩ := hT
  refine r_iload_n X dX9_lengthOf_0 rfl rfl ?_
  refine r_if_lt (tgt := 21) X dX9_lengthOf_1 (by decide) (fun h1 => ?_) (fun h1 => ?_)
  · skip
    exact absurd h1 (nI_pos (by omega))
  · skip
    refine r_iload_n X dX9_lengthOf_4 rfl rfl ?_
    refine r_aload_n X dX9_lengthOf_5 rfl rfl ?_
    refine r_getI X dX9_lengthOf_6 fX9_24 (by assumption) (by first | assumption | rfl) ?_
    refine r_icmpN_ge (tgt := 21) X dX9_lengthOf_9 (by decide) (by omega) (by omega) (fun h9 => ?_) (fun h9 => ?_)
    · skip
      refine r_iconst (v := 0) X dX9_lengthOf_21 (by decide) ?_
      refine r_ireturn X dX9_lengthOf_22 rfl (by first | omega | decide) (by first | omega | decide) ?_
      first | exact ⟨by rw [lenOf, if_pos (by omega)], rfl⟩ | exact ⟨by rw [lenOf, if_neg (by omega)], rfl⟩
    · skip
      refine r_aload_n X dX9_lengthOf_12 rfl rfl ?_
      refine r_getR X dX9_lengthOf_13 fX9_9 (by assumption) (by assumption) ?_
      refine r_iload_n X dX9_lengthOf_16 rfl rfl ?_
      refine r_ialdN X dX9_lengthOf_17 (by assumption) (by omega) (by omega) (by first | assumption | rfl) ?_
      refine r_goto (tgt := 22) X dX9_lengthOf_18 (by decide) ?_
      refine r_ireturn X dX9_lengthOf_22 rfl (by first | omega | decide) (by first | omega | decide) ?_
      first | exact ⟨by rw [lenOf, if_pos (by omega)], rfl⟩ | exact ⟨by rw [lenOf, if_neg (by omega)], rfl⟩
set_option maxHeartbeats 2000000 in
set_option maxRecDepth 20000 in
/-- SledHouse$Trail.coldIn -/
theorem c_trCold {E : Ev} (GE : Glob E) (S : Nat → Option (Nat × Nat)) (I : Nat → Nat → Int32) (V : Nat → Nat → Option Nat) (J : Nat → Nat → Int64) (N : Nat) (r s : Nat) (hT : TrailSh S V r) (hs : s < 2004) : Ct E yX9_coldIn cX9_coldIn 3 (some .int) (rmL 0) [.ref r, .int (nI s)] (S, I, V, J, N) (fun v w' => v = some (.int (I (r + 4) (s / 6))) ∧ w' = (S, I, V, J, N)) := by
  refine Ct.start GE (by decide) rfl (Nat.le_of_ble_eq_true rfl) (fun M X => ?_)
  have X : Cx E M RX9 cX9_coldIn 3 (rmL 0) (some .int) "coldIn" := X
  refine r_loc (L' := [some (.ref r), some (.int (nI s)), none]) rfl ?_
  obtain ⟨hs0, hv0, hv1, hv2, hv3, hs1, hs2, hs3, hs4⟩ := hT
  refine r_iload_n X dX9_coldIn_0 rfl rfl ?_
  refine r_bipush (v := 6) X dX9_coldIn_1 (by decide) ?_
  refine r_idiv X dX9_coldIn_3 (by decide) ?_
  refine r_topi (nI (s / 6)) (pk_div (by omega) (by decide) (by decide)) ?_
  refine r_istore_n X dX9_coldIn_4 rfl (by decide) rfl ?_
  refine r_iload_n X dX9_coldIn_5 rfl rfl ?_
  refine r_if_lt (tgt := 25) X dX9_coldIn_6 (by decide) (fun h6 => ?_) (fun h6 => ?_)
  · skip
    exact absurd h6 (nI_pos (by omega))
  · skip
    refine r_iload_n X dX9_coldIn_9 rfl rfl ?_
    refine r_sipush (v := nI 334) X dX9_coldIn_10 (by decide) ?_
    refine r_icmpN_ge (tgt := 25) X dX9_coldIn_13 (by decide) (by omega) (by omega) (fun h13 => ?_) (fun h13 => ?_)
    · skip
      omega
    · skip
      refine r_aload_n X dX9_coldIn_16 rfl rfl ?_
      refine r_getR X dX9_coldIn_17 fX9_21 (by assumption) (by assumption) ?_
      refine r_iload_n X dX9_coldIn_20 rfl rfl ?_
      refine r_ialdN X dX9_coldIn_21 (by assumption) (by omega) (by omega) (by first | assumption | rfl) ?_
      refine r_goto (tgt := 26) X dX9_coldIn_22 (by decide) ?_
      refine r_ireturn X dX9_coldIn_26 rfl (by first | omega | decide) (by first | omega | decide) ?_
      exact ⟨rfl, rfl⟩
def trCopy (I : Mem) (r e : Nat) : Mem := fun b k => if b = r ∧ k = 4 then I e k else if b = r + 1 ∧ k < 12 then I (e + 1) k else if b = r + 2 ∧ k < 12 then I (e + 2) k else if b = r + 3 ∧ k < 13 then I (e + 3) k else if b = r + 4 ∧ k < 334 then I (e + 4) k else I b k
theorem trCopy_eq (I : Mem) (r e : Nat) (hne : e + 4 < r ∨ r + 4 < e) : up2 (cpyI (cpyI (cpyI (cpyI I (e + 1) (r + 1) 0 0 12) (e + 2) (r + 2) 0 0 12) (e + 3) (r + 3) 0 0 13) (e + 4) (r + 4) 0 0 334) r 4 (I e 4) = trCopy I r e := by
  funext b k
  unfold trCopy up2 cpyI
  by_cases h0 : b = r
  · subst h0
    by_cases h3 : k = 4
    · subst h3; simp
    · simp [h3]
  · by_cases h1 : b = r + 1
    · subst h1
      simp
    · by_cases h2 : b = r + 2
      · subst h2
        simp [show ¬ e + 2 = r + 1 by omega]
      · by_cases h3 : b = r + 3
        · subst h3
          simp [show ¬ e + 3 = r + 1 by omega, show ¬ e + 3 = r + 2 by omega]
        · by_cases h4 : b = r + 4
          · subst h4
            simp [show ¬ e + 4 = r + 1 by omega, show ¬ e + 4 = r + 2 by omega, show ¬ e + 4 = r + 3 by omega]
          · simp [h0, h1, h2, h3, h4]
set_option maxHeartbeats 2000000 in
set_option maxRecDepth 20000 in
/-- SledHouse$Trail.copyFrom -/
theorem c_trCopy {E : Ev} (GE : Glob E) (S : Nat → Option (Nat × Nat)) (I : Nat → Nat → Int32) (V : Nat → Nat → Option Nat) (J : Nat → Nat → Int64) (N : Nat) (r e : Nat) (hT : TrailSh S V r) (hE : TrailSh S V e) (hne : e + 4 < r ∨ r + 4 < e) : Ct E yX9_copyFrom cX9_copyFrom 2 none (rmL 1) [.ref r, .ref e] (S, I, V, J, N) (fun v w' => v = none ∧ w' = (S, trCopy I r e, V, J, N)) := by
  refine Ct.start GE (by decide) rfl (Nat.le_of_ble_eq_true rfl) (fun M X => ?_)
  have X : Cx E M RX9 cX9_copyFrom 2 (rmL 1) none "copyFrom" := X
  refine r_loc (L' := [some (.ref r), some (.ref e)]) rfl ?_
  obtain ⟨hs0, hv0, hv1, hv2, hv3, hs1, hs2, hs3, hs4⟩ := hT
  obtain ⟨gs0, gv0, gv1, gv2, gv3, gs1, gs2, gs3, gs4⟩ := hE
  refine r_aload_n X dX9_copyFrom_0 rfl rfl ?_
  refine r_getR X dX9_copyFrom_1 fX9_9 (by assumption) (by assumption) ?_
  refine r_iconst (v := nI 0) X dX9_copyFrom_4 (by decide) ?_
  refine r_aload_n X dX9_copyFrom_5 rfl rfl ?_
  refine r_getR X dX9_copyFrom_6 fX9_9 (by assumption) (by assumption) ?_
  refine r_iconst (v := nI 0) X dX9_copyFrom_9 (by decide) ?_
  refine r_bipush (v := nI 12) X dX9_copyFrom_10 (by decide) ?_
  refine r_copyI X dX9_copyFrom_12 mmX9_34 (by assumption) (by assumption) (by omega) (by omega) (by omega) (by omega) (by decide) (Nat.le_of_ble_eq_true rfl) ?_
  refine r_aload_n X dX9_copyFrom_15 rfl rfl ?_
  refine r_getR X dX9_copyFrom_16 fX9_15 (by assumption) (by assumption) ?_
  refine r_iconst (v := nI 0) X dX9_copyFrom_19 (by decide) ?_
  refine r_aload_n X dX9_copyFrom_20 rfl rfl ?_
  refine r_getR X dX9_copyFrom_21 fX9_15 (by assumption) (by assumption) ?_
  refine r_iconst (v := nI 0) X dX9_copyFrom_24 (by decide) ?_
  refine r_bipush (v := nI 12) X dX9_copyFrom_25 (by decide) ?_
  refine r_copyI X dX9_copyFrom_27 mmX9_34 (by assumption) (by assumption) (by omega) (by omega) (by omega) (by omega) (by decide) (Nat.le_of_ble_eq_true rfl) ?_
  refine r_aload_n X dX9_copyFrom_30 rfl rfl ?_
  refine r_getR X dX9_copyFrom_31 fX9_18 (by assumption) (by assumption) ?_
  refine r_iconst (v := nI 0) X dX9_copyFrom_34 (by decide) ?_
  refine r_aload_n X dX9_copyFrom_35 rfl rfl ?_
  refine r_getR X dX9_copyFrom_36 fX9_18 (by assumption) (by assumption) ?_
  refine r_iconst (v := nI 0) X dX9_copyFrom_39 (by decide) ?_
  refine r_bipush (v := nI 13) X dX9_copyFrom_40 (by decide) ?_
  refine r_copyI X dX9_copyFrom_42 mmX9_34 (by assumption) (by assumption) (by omega) (by omega) (by omega) (by omega) (by decide) (Nat.le_of_ble_eq_true rfl) ?_
  refine r_aload_n X dX9_copyFrom_45 rfl rfl ?_
  refine r_getR X dX9_copyFrom_46 fX9_21 (by assumption) (by assumption) ?_
  refine r_iconst (v := nI 0) X dX9_copyFrom_49 (by decide) ?_
  refine r_aload_n X dX9_copyFrom_50 rfl rfl ?_
  refine r_getR X dX9_copyFrom_51 fX9_21 (by assumption) (by assumption) ?_
  refine r_iconst (v := nI 0) X dX9_copyFrom_54 (by decide) ?_
  refine r_sipush (v := nI 334) X dX9_copyFrom_55 (by decide) ?_
  refine r_copyI X dX9_copyFrom_58 mmX9_34 (by assumption) (by assumption) (by omega) (by omega) (by omega) (by omega) (by decide) (Nat.le_of_ble_eq_true rfl) ?_
  refine r_aload_n X dX9_copyFrom_61 rfl rfl ?_
  refine r_aload_n X dX9_copyFrom_62 rfl rfl ?_
  refine r_getI X dX9_copyFrom_63 fX9_24 (by assumption) ((cpyI_a (by omega)).trans ((cpyI_a (by omega)).trans ((cpyI_a (by omega)).trans (cpyI_a (by omega))))) ?_
  refine r_putI X dX9_copyFrom_66 fX9_24 wX9_24 (by assumption) rfl rfl ?_
  refine r_return X dX9_copyFrom_69 (by first | omega | decide) (by first | omega | decide) ?_
  exact ⟨rfl, by rw [trCopy_eq I r e hne]⟩
/-! ===== SledHouse$Team, its leaves ===== -/
def TeamSh (S : Nat → Option (Nat × Nat)) (V : Nat → Nat → Option Nat) (t : Nat) : Prop := S t = some (7, 0) ∧ V t 0 = some (t + 1) ∧ V t 1 = some (t + 5) ∧ V t 2 = some (t + 8) ∧ V t 3 = some (t + 9) ∧ DogsSh S V (t + 1) ∧ GapsSh S V (t + 5) ∧ S (t + 8) = some (100, 13) ∧ S (t + 9) = some (100, 13)
def tThrough (I : Mem) (t : Nat) : Bool := decide (I t 8 = 2) || decide (I t 8 = 3)
set_option maxHeartbeats 2000000 in
set_option maxRecDepth 20000 in
/-- SledHouse$Team.isThrough -/
theorem c_tThrough {E : Ev} (GE : Glob E) (S : Nat → Option (Nat × Nat)) (I : Nat → Nat → Int32) (V : Nat → Nat → Option Nat) (J : Nat → Nat → Int64) (N : Nat) (t : Nat) (hT : TeamSh S V t) : Ct E yX8_isThrough cX8_isThrough 1 (some .boolean) (rmL 0) [.ref t] (S, I, V, J, N) (fun v w' => v = some (.int (bI (tThrough I t))) ∧ w' = (S, I, V, J, N)) := by
  refine Ct.start GE (by decide) rfl (Nat.le_of_ble_eq_true rfl) (fun M X => ?_)
  have X : Cx E M RX8 cX8_isThrough 1 (rmL 0) (some .boolean) "isThrough" := X
  refine r_loc (L' := [some (.ref t)]) rfl ?_
  obtain ⟨hs0, hv0, hv1, hv2, hv3, hD, hG, hs8, hs9⟩ := hT
  refine r_aload_n X dX8_isThrough_0 rfl rfl ?_
  refine r_getI X dX8_isThrough_1 fX8_45 (by assumption) (by first | assumption | rfl) ?_
  refine r_iconst (v := 2) X dX8_isThrough_4 (by decide) ?_
  refine r_icmp_eq (tgt := 16) X dX8_isThrough_5 (by decide) (fun h5 => ?_) (fun h5 => ?_)
  · skip
    refine r_iconst (v := 1) X dX8_isThrough_16 (by decide) ?_
    refine r_goto (tgt := 21) X dX8_isThrough_17 (by decide) ?_
    refine r_ireturn X dX8_isThrough_21 rfl (by first | omega | decide) (by first | omega | decide) ?_
    exact ⟨by simp [tThrough, bI, *], rfl⟩
  · skip
    refine r_aload_n X dX8_isThrough_8 rfl rfl ?_
    refine r_getI X dX8_isThrough_9 fX8_45 (by assumption) (by first | assumption | rfl) ?_
    refine r_iconst (v := 3) X dX8_isThrough_12 (by decide) ?_
    refine r_icmp_ne (tgt := 20) X dX8_isThrough_13 (by decide) (fun h13 => ?_) (fun h13 => ?_)
    · skip
      refine r_iconst (v := 0) X dX8_isThrough_20 (by decide) ?_
      refine r_ireturn X dX8_isThrough_21 rfl (by first | omega | decide) (by first | omega | decide) ?_
      exact ⟨by simp [tThrough, bI, *], rfl⟩
    · skip
      refine r_iconst (v := 1) X dX8_isThrough_16 (by decide) ?_
      refine r_goto (tgt := 21) X dX8_isThrough_17 (by decide) ?_
      refine r_ireturn X dX8_isThrough_21 rfl (by first | omega | decide) (by first | omega | decide) ?_
      exact ⟨by simp [tThrough, bI, *], rfl⟩
def tWay (I : Mem) (r t l : Nat) : Int32 := I (r + 3) l + I t 11
set_option maxHeartbeats 2000000 in
set_option maxRecDepth 20000 in
/-- SledHouse$Team.way -/
theorem c_tWay {E : Ev} (GE : Glob E) (S : Nat → Option (Nat × Nat)) (I : Nat → Nat → Int32) (V : Nat → Nat → Option Nat) (J : Nat → Nat → Int64) (N : Nat) (t r l : Nat) (hT : TeamSh S V t) (hR : TrailSh S V r) (hl : I t 10 = nI l) (hl12 : l ≤ 12) : Ct E yX8_way cX8_way 2 (some .int) (rmL 0) [.ref t, .ref r] (S, I, V, J, N) (fun v w' => v = some (.int (tWay I r t l)) ∧ w' = (S, I, V, J, N)) := by
  refine Ct.start GE (by decide) rfl (Nat.le_of_ble_eq_true rfl) (fun M X => ?_)
  have X : Cx E M RX8 cX8_way 2 (rmL 0) (some .int) "way" := X
  refine r_loc (L' := [some (.ref t), some (.ref r)]) rfl ?_
  obtain ⟨hs0, hv0, hv1, hv2, hv3, hD, hG, hs8, hs9⟩ := hT
  obtain ⟨rs0, rv0, rv1, rv2, rv3, rs1, rs2, rs3, rs4⟩ := hR
  refine r_aload_n X dX8_way_0 rfl rfl ?_
  refine r_getR X dX8_way_1 fX8_96 (by assumption) (by assumption) ?_
  refine r_aload_n X dX8_way_4 rfl rfl ?_
  refine r_getI X dX8_way_5 fX8_51 (by assumption) (by first | assumption | rfl) ?_
  refine r_ialdN X dX8_way_8 (by assumption) (by omega) (by omega) (by first | assumption | rfl) ?_
  refine r_aload_n X dX8_way_9 rfl rfl ?_
  refine r_getI X dX8_way_10 fX8_54 (by assumption) (by first | assumption | rfl) ?_
  refine r_iadd X dX8_way_13 ?_
  refine r_ireturn X dX8_way_14 rfl (by first | omega | decide) (by first | omega | decide) ?_
  exact ⟨rfl, rfl⟩
def tLoad (I : Mem) (t : Nat) : Int32 := I t 4 + 25 * I (t + 1) 5
set_option maxHeartbeats 2000000 in
set_option maxRecDepth 20000 in
/-- SledHouse$Team.loadNow -/
theorem c_tLoad {E : Ev} (GE : Glob E) (S : Nat → Option (Nat × Nat)) (I : Nat → Nat → Int32) (V : Nat → Nat → Option Nat) (J : Nat → Nat → Int64) (N : Nat) (t : Nat) (hT : TeamSh S V t) : Ct E yX8_loadNow cX8_loadNow 1 (some .int) (rmL 0) [.ref t] (S, I, V, J, N) (fun v w' => v = some (.int (tLoad I t)) ∧ w' = (S, I, V, J, N)) := by
  refine Ct.start GE (by decide) rfl (Nat.le_of_ble_eq_true rfl) (fun M X => ?_)
  have X : Cx E M RX8 cX8_loadNow 1 (rmL 0) (some .int) "loadNow" := X
  refine r_loc (L' := [some (.ref t)]) rfl ?_
  obtain ⟨hs0, hv0, hv1, hv2, hv3, ⟨ds0, -⟩, hG, hs8, hs9⟩ := hT
  refine r_aload_n X dX8_loadNow_0 rfl rfl ?_
  refine r_getI X dX8_loadNow_1 fX8_32 (by assumption) (by first | assumption | rfl) ?_
  refine r_bipush (v := 25) X dX8_loadNow_4 (by decide) ?_
  refine r_aload_n X dX8_loadNow_6 rfl rfl ?_
  refine r_getR X dX8_loadNow_7 fX8_12 (by assumption) (by assumption) ?_
  refine r_getI X dX8_loadNow_10 fX8_101 (by assumption) (by first | assumption | rfl) ?_
  refine r_imul X dX8_loadNow_13 ?_
  refine r_iadd X dX8_loadNow_14 ?_
  refine r_ireturn X dX8_loadNow_15 rfl (by first | omega | decide) (by first | omega | decide) ?_
  exact ⟨rfl, rfl⟩
def tRested (I : Mem) (t p : Nat) : Int32 := if 12 < p ∨ I (t + 9) p = -1 then 0 else I (t + 9) p - I (t + 8) p
set_option maxHeartbeats 2000000 in
set_option maxRecDepth 20000 in
/-- SledHouse$Team.restedAt -/
theorem c_tRested {E : Ev} (GE : Glob E) (S : Nat → Option (Nat × Nat)) (I : Nat → Nat → Int32) (V : Nat → Nat → Option Nat) (J : Nat → Nat → Int64) (N : Nat) (t p : Nat) (hT : TeamSh S V t) (hp : p < 100000) : Ct E yX8_restedAt cX8_restedAt 2 (some .int) (rmL 0) [.ref t, .int (nI p)] (S, I, V, J, N) (fun v w' => v = some (.int (tRested I t p)) ∧ w' = (S, I, V, J, N)) := by
  refine Ct.start GE (by decide) rfl (Nat.le_of_ble_eq_true rfl) (fun M X => ?_)
  have X : Cx E M RX8 cX8_restedAt 2 (rmL 0) (some .int) "restedAt" := X
  refine r_loc (L' := [some (.ref t), some (.int (nI p))]) rfl ?_
  obtain ⟨hs0, hv0, hv1, hv2, hv3, hD, hG, hs8, hs9⟩ := hT
  refine r_iload_n X dX8_restedAt_0 rfl rfl ?_
  refine r_if_lt (tgt := 20) X dX8_restedAt_1 (by decide) (fun h1 => ?_) (fun h1 => ?_)
  · skip
    exact absurd h1 (nI_pos (by omega))
  · skip
    refine r_iload_n X dX8_restedAt_4 rfl rfl ?_
    refine r_bipush (v := nI 12) X dX8_restedAt_5 (by decide) ?_
    refine r_icmpN_gt (tgt := 20) X dX8_restedAt_7 (by decide) (by omega) (by omega) (fun h7 => ?_) (fun h7 => ?_)
    · skip
      refine r_iconst (v := 0) X dX8_restedAt_20 (by decide) ?_
      refine r_ireturn X dX8_restedAt_21 rfl (by first | omega | decide) (by first | omega | decide) ?_
      exact ⟨by rw [tRested, if_pos (by first | exact Or.inl (by omega) | exact Or.inr (by assumption))], rfl⟩
    · skip
      refine r_aload_n X dX8_restedAt_10 rfl rfl ?_
      refine r_getR X dX8_restedAt_11 fX8_29 (by assumption) (by assumption) ?_
      refine r_iload_n X dX8_restedAt_14 rfl rfl ?_
      refine r_ialdN X dX8_restedAt_15 (by assumption) (by omega) (by omega) (by first | assumption | rfl) ?_
      refine r_iconst (v := -1) X dX8_restedAt_16 (by decide) ?_
      refine r_icmp_ne (tgt := 22) X dX8_restedAt_17 (by decide) (fun h17 => ?_) (fun h17 => ?_)
      · skip
        refine r_aload_n X dX8_restedAt_22 rfl rfl ?_
        refine r_getR X dX8_restedAt_23 fX8_29 (by assumption) (by assumption) ?_
        refine r_iload_n X dX8_restedAt_26 rfl rfl ?_
        refine r_ialdN X dX8_restedAt_27 (by assumption) (by omega) (by omega) (by first | assumption | rfl) ?_
        refine r_aload_n X dX8_restedAt_28 rfl rfl ?_
        refine r_getR X dX8_restedAt_29 fX8_25 (by assumption) (by assumption) ?_
        refine r_iload_n X dX8_restedAt_32 rfl rfl ?_
        refine r_ialdN X dX8_restedAt_33 (by assumption) (by omega) (by omega) (by first | assumption | rfl) ?_
        refine r_isub X dX8_restedAt_34 ?_
        refine r_ireturn X dX8_restedAt_35 rfl (by first | omega | decide) (by first | omega | decide) ?_
        exact ⟨by rw [tRested, if_neg (by rintro (q | q); (· omega); (· exact h17 q))], rfl⟩
      · skip
        refine r_iconst (v := 0) X dX8_restedAt_20 (by decide) ?_
        refine r_ireturn X dX8_restedAt_21 rfl (by first | omega | decide) (by first | omega | decide) ?_
        exact ⟨by rw [tRested, if_pos (by first | exact Or.inl (by omega) | exact Or.inr (by assumption))], rfl⟩
def tRestGain (x : Int32) : Int32 := if x < -30 then 10 else if -5 < x then 12 else 15
set_option maxHeartbeats 2000000 in
set_option maxRecDepth 20000 in
/-- SledHouse$Team.restGain -/
theorem c_tRestGain {E : Ev} (GE : Glob E) (x : Int32) (w : Wd) : Ct E yX8_restGain cX8_restGain 1 (some .int) (rmL 0) [.int x] w (fun v w' => v = some (.int (tRestGain x)) ∧ w' = w) := by
  refine Ct.start GE (by decide) rfl (Nat.le_of_ble_eq_true rfl) (fun M X => ?_)
  have X : Cx E M RX8 cX8_restGain 1 (rmL 0) (some .int) "restGain" := X
  refine r_loc (L' := [some (.int x)]) rfl ?_
  refine r_iload_n X dX8_restGain_0 rfl rfl ?_
  refine r_bipush (v := -30) X dX8_restGain_1 (by decide) ?_
  refine r_icmp_ge (tgt := 9) X dX8_restGain_3 (by decide) (fun h3 => ?_) (fun h3 => ?_)
  · skip
    refine r_iload_n X dX8_restGain_9 rfl rfl ?_
    refine r_bipush (v := -5) X dX8_restGain_10 (by decide) ?_
    refine r_icmp_le (tgt := 20) X dX8_restGain_12 (by decide) (fun h12 => ?_) (fun h12 => ?_)
    · skip
      refine r_bipush (v := 15) X dX8_restGain_20 (by decide) ?_
      refine r_ireturn X dX8_restGain_22 rfl (by first | omega | decide) (by first | omega | decide) ?_
      first | exact ⟨by rw [tRestGain, if_neg (Int32.not_lt.mpr h3), if_neg (Int32.not_lt.mpr h12)], rfl⟩ | exact ⟨by rw [tRestGain, if_neg (Int32.not_lt.mpr h3), if_pos (Int32.not_le.mp h12)], rfl⟩
    · skip
      refine r_bipush (v := 12) X dX8_restGain_15 (by decide) ?_
      refine r_goto (tgt := 22) X dX8_restGain_17 (by decide) ?_
      refine r_ireturn X dX8_restGain_22 rfl (by first | omega | decide) (by first | omega | decide) ?_
      first | exact ⟨by rw [tRestGain, if_neg (Int32.not_lt.mpr h3), if_neg (Int32.not_lt.mpr h12)], rfl⟩ | exact ⟨by rw [tRestGain, if_neg (Int32.not_lt.mpr h3), if_pos (Int32.not_le.mp h12)], rfl⟩
  · skip
    refine r_bipush (v := 10) X dX8_restGain_6 (by decide) ?_
    refine r_ireturn X dX8_restGain_8 rfl (by first | omega | decide) (by first | omega | decide) ?_
    exact ⟨by rw [tRestGain, if_pos (Int32.not_le.mp h3)], rfl⟩
def tHeat (x : Int32) : Int32 := if -10 < x then (x + 10) / 3 else 0
set_option maxHeartbeats 2000000 in
set_option maxRecDepth 20000 in
/-- SledHouse$Team.heatLoss -/
theorem c_tHeat {E : Ev} (GE : Glob E) (x : Int32) (w : Wd) : Ct E yX8_heatLoss cX8_heatLoss 1 (some .int) (rmL 0) [.int x] w (fun v w' => v = some (.int (tHeat x)) ∧ w' = w) := by
  refine Ct.start GE (by decide) rfl (Nat.le_of_ble_eq_true rfl) (fun M X => ?_)
  have X : Cx E M RX8 cX8_heatLoss 1 (rmL 0) (some .int) "heatLoss" := X
  refine r_loc (L' := [some (.int x)]) rfl ?_
  refine r_iload_n X dX8_heatLoss_0 rfl rfl ?_
  refine r_bipush (v := -10) X dX8_heatLoss_1 (by decide) ?_
  refine r_icmp_le (tgt := 15) X dX8_heatLoss_3 (by decide) (fun h3 => ?_) (fun h3 => ?_)
  · skip
    refine r_iconst (v := 0) X dX8_heatLoss_15 (by decide) ?_
    refine r_ireturn X dX8_heatLoss_16 rfl (by first | omega | decide) (by first | omega | decide) ?_
    first | exact ⟨by rw [tHeat, if_neg (Int32.not_lt.mpr h3)], rfl⟩ | exact ⟨by rw [tHeat, if_pos (Int32.not_le.mp h3)], rfl⟩
  · skip
    refine r_iload_n X dX8_heatLoss_6 rfl rfl ?_
    refine r_bipush (v := 10) X dX8_heatLoss_7 (by decide) ?_
    refine r_iadd X dX8_heatLoss_9 ?_
    refine r_iconst (v := 3) X dX8_heatLoss_10 (by decide) ?_
    refine r_idiv X dX8_heatLoss_11 (by decide) ?_
    refine r_goto (tgt := 16) X dX8_heatLoss_12 (by decide) ?_
    refine r_ireturn X dX8_heatLoss_16 rfl (by first | omega | decide) (by first | omega | decide) ?_
    first | exact ⟨by rw [tHeat, if_neg (Int32.not_lt.mpr h3)], rfl⟩ | exact ⟨by rw [tHeat, if_pos (Int32.not_le.mp h3)], rfl⟩
def share (x y : Int32) : Int32 := if 0 < y then x / y else 0
set_option maxHeartbeats 2000000 in
set_option maxRecDepth 20000 in
/-- SledHouse.share -/
theorem c_share {E : Ev} (GE : Glob E) (x y : Int32) (w : Wd) : Ct E yX10_share cX10_share 2 (some .int) (rmL 0) [.int x, .int y] w (fun v w' => v = some (.int (share x y)) ∧ w' = w) := by
  refine Ct.start GE (by decide) rfl (Nat.le_of_ble_eq_true rfl) (fun M X => ?_)
  have X : Cx E M RX10 cX10_share 2 (rmL 0) (some .int) "share" := X
  refine r_loc (L' := [some (.int x), some (.int y)]) rfl ?_
  refine r_iload_n X dX10_share_0 rfl rfl ?_
  refine r_if_le (tgt := 10) X dX10_share_1 (by decide) (fun h1 => ?_) (fun h1 => ?_)
  · skip
    refine r_iconst (v := 0) X dX10_share_10 (by decide) ?_
    refine r_ireturn X dX10_share_11 rfl (by first | omega | decide) (by first | omega | decide) ?_
    first | exact ⟨by rw [share, if_neg (Int32.not_lt.mpr h1)], rfl⟩ | exact ⟨by rw [share, if_pos (Int32.not_le.mp h1)], rfl⟩
  · skip
    refine r_iload_n X dX10_share_4 rfl rfl ?_
    refine r_iload_n X dX10_share_5 rfl rfl ?_
    refine r_idiv X dX10_share_6 (fun q => by rw [q] at h1; exact h1 (by decide)) ?_
    refine r_goto (tgt := 11) X dX10_share_7 (by decide) ?_
    refine r_ireturn X dX10_share_11 rfl (by first | omega | decide) (by first | omega | decide) ?_
    first | exact ⟨by rw [share, if_neg (Int32.not_lt.mpr h1)], rfl⟩ | exact ⟨by rw [share, if_pos (Int32.not_le.mp h1)], rfl⟩
def tReach (I : Mem) (t m : Nat) (h : Int32) : Int32 := share (share (30 * dMean I (t + 1) m * I (t + 1) 4 * 100) (1000 * h) * 20) (20 * I (t + 1) 4 + tLoad I t)
set_option maxHeartbeats 2000000 in
set_option maxRecDepth 20000 in
/-- SledHouse$Team.reach -/
theorem c_tReach {E : Ev} (GE : Glob E) (S : Nat → Option (Nat × Nat)) (I : Nat → Nat → Int32) (V : Nat → Nat → Option Nat) (J : Nat → Nat → Int64) (N : Nat) (t m : Nat) (h : Int32) (hT : TeamSh S V t) (hm : I (t + 1) 3 = nI m) (hm6 : m ≤ 16) : Ct E yX8_reach cX8_reach 3 (some .int) (rmL 2) [.ref t, .int h] (S, I, V, J, N) (fun v w' => v = some (.int (tReach I t m h)) ∧ w' = (S, I, V, J, N)) := by
  refine Ct.start GE (by decide) rfl (Nat.le_of_ble_eq_true rfl) (fun M X => ?_)
  have X : Cx E M RX8 cX8_reach 3 (rmL 2) (some .int) "reach" := X
  refine r_loc (L' := [some (.ref t), some (.int h), none]) rfl ?_
  have hT' := hT
  obtain ⟨hs0, hv0, hv1, hv2, hv3, hD, hG, hs8, hs9⟩ := hT
  have hD0 := hD.1
  refine r_bipush (v := 30) X dX8_reach_0 (by decide) ?_
  refine r_aload_n X dX8_reach_2 rfl rfl ?_
  refine r_getR X dX8_reach_3 fX8_12 (by assumption) (by assumption) ?_
  refine q_callV X dX8_reach_6 mX8_162 cwX0_meanStrength (c_dMean GE S I V J N (t + 1) m hD hm hm6) rfl (by assumption) rfl rfl rfl (Nat.le_of_ble_eq_true rfl) ⟨by decide, by decide⟩ ⟨by first | omega | decide, by first | omega | decide⟩ ?_
  rintro _ _ ⟨rfl, rfl⟩
  refine r_imul X dX8_reach_9 ?_
  refine r_aload_n X dX8_reach_10 rfl rfl ?_
  refine r_getR X dX8_reach_11 fX8_12 (by assumption) (by assumption) ?_
  refine r_getI X dX8_reach_14 fX8_131 (by assumption) (by first | assumption | rfl) ?_
  refine r_imul X dX8_reach_17 ?_
  refine r_bipush (v := 100) X dX8_reach_18 (by decide) ?_
  refine r_imul X dX8_reach_20 ?_
  refine r_sipush (v := 1000) X dX8_reach_21 (by decide) ?_
  refine r_iload_n X dX8_reach_24 rfl rfl ?_
  refine r_imul X dX8_reach_25 ?_
  refine q_callS X dX8_reach_26 mX8_165 cwX10_share (c_share GE _ _ _) rfl rfl (Nat.le_of_ble_eq_true rfl) ⟨by decide, by decide⟩ ⟨by first | omega | decide, by first | omega | decide⟩ ?_
  rintro _ _ ⟨rfl, rfl⟩
  refine r_istore_n X dX8_reach_29 rfl (by decide) rfl ?_
  refine r_iload_n X dX8_reach_30 rfl rfl ?_
  refine r_bipush (v := 20) X dX8_reach_31 (by decide) ?_
  refine r_imul X dX8_reach_33 ?_
  refine r_bipush (v := 20) X dX8_reach_34 (by decide) ?_
  refine r_aload_n X dX8_reach_36 rfl rfl ?_
  refine r_getR X dX8_reach_37 fX8_12 (by assumption) (by assumption) ?_
  refine r_getI X dX8_reach_40 fX8_131 (by assumption) (by first | assumption | rfl) ?_
  refine r_imul X dX8_reach_43 ?_
  refine r_aload_n X dX8_reach_44 rfl rfl ?_
  refine q_callV X dX8_reach_45 mX8_143 cwX8_loadNow (c_tLoad GE S I V J N t hT') rfl (by assumption) rfl rfl rfl (Nat.le_of_ble_eq_true rfl) ⟨by decide, by decide⟩ ⟨by first | omega | decide, by first | omega | decide⟩ ?_
  rintro _ _ ⟨rfl, rfl⟩
  refine r_iadd X dX8_reach_48 ?_
  refine q_callS X dX8_reach_49 mX8_165 cwX10_share (c_share GE _ _ _) rfl rfl (Nat.le_of_ble_eq_true rfl) ⟨by decide, by decide⟩ ⟨by first | omega | decide, by first | omega | decide⟩ ?_
  rintro _ _ ⟨rfl, rfl⟩
  refine r_ireturn X dX8_reach_52 rfl (by first | omega | decide) (by first | omega | decide) ?_
  exact ⟨rfl, rfl⟩
