/-! ===== SledHouse$Dogs ===== -/
def DogsSh (S : Nat → Option (Nat × Nat)) (V : Nat → Nat → Option Nat) (d : Nat) : Prop := S d = some (0, 0) ∧ V d 0 = some (d + 1) ∧ V d 1 = some (d + 2) ∧ V d 2 = some (d + 3) ∧ S (d + 1) = some (100, 16) ∧ S (d + 2) = some (100, 16) ∧ S (d + 3) = some (100, 16)
/-- the dogs k < j of d are fresh -/
def dBeg (I : Nat → Nat → Int32) (d : Nat) : Nat → Nat → Nat → Int32
  | 0 => I
  | j + 1 => up2 (up2 (up2 (dBeg I d j) (d + 1) j 1000) (d + 2) j 0) (d + 3) j (-1)
theorem dBeg_d (I : Nat → Nat → Int32) (d k : Nat) : ∀ j, dBeg I d j d k = I d k
  | 0 => rfl
  | j + 1 => by simp [dBeg, up2, dBeg_d I d k j]
def dBegin (I : Nat → Nat → Int32) (d m : Nat) : Nat → Nat → Int32 := dBeg (up2 (up2 (up2 I d 3 (nI m)) d 4 (nI m)) d 5 0) d m
def dSum (I : Nat → Nat → Int32) (d : Nat) : Nat → Int32
  | 0 => 0
  | j + 1 => if I (d + 2) j = 0 then dSum I d j + I (d + 1) j else dSum I d j
def dMean (I : Nat → Nat → Int32) (d m : Nat) : Int32 := if 0 < I d 4 then dSum I d m / I d 4 else 0
def dLeast (I : Nat → Nat → Int32) (d : Nat) : Nat → Int32
  | 0 => -1
  | j + 1 => if I (d + 2) j = 0 ∧ (dLeast I d j = -1 ∨ I (d + 1) j < dLeast I d j) then I (d + 1) j else dLeast I d j
/-- the weakest of the dogs k < j, none: -1 -/
def dWeak (I : Nat → Nat → Int32) (d : Nat) : Nat → Option Nat
  | 0 => none
  | j + 1 => match dWeak I d j with
    | none => if I (d + 2) j = 0 then some j else none
    | some b => if I (d + 2) j = 0 ∧ I (d + 1) j < I (d + 1) b then some j else some b
def oI (o : Option Nat) : Int32 := match o with
  | none => -1
  | some k => nI k
theorem dWeak_lt (I : Nat → Nat → Int32) (d : Nat) : ∀ j b, dWeak I d j = some b → b < j
  | 0, b, h => by simp [dWeak] at h
  | j + 1, b, h => by
    unfold dWeak at h
    split at h
    · split at h
      · cases h; omega
      · cases h
    · next b' hb =>
      have := dWeak_lt I d j b' hb
      split at h
      · cases h; omega
      · cases h; omega
theorem oI_none {o : Option Nat} (h : ∀ b, o = some b → b < 2 ^ 31) : oI o = -1 ↔ o = none := by
  cases o with
  | none => simp [oI]
  | some b =>
    have := nI_pos (h b rfl)
    simp only [oI]
    constructor
    · intro q
      rw [q] at this
      exact absurd (by decide) this
    · intro q; cases q
def dGain (I : Nat → Nat → Int32) (d : Nat) (x : Int32) : Nat → Nat → Nat → Int32
  | 0 => I
  | j + 1 => if dGain I d x j (d + 2) j = 0 then up2 (dGain I d x j) (d + 1) j (iMin 1000 (dGain I d x j (d + 1) j + x)) else dGain I d x j
theorem dGain_k (I : Nat → Nat → Int32) (d : Nat) (x : Int32) {b k : Nat} (h : b ≠ d + 1) : ∀ j, dGain I d x j b k = I b k
  | 0 => rfl
  | j + 1 => by
    unfold dGain
    split
    · rw [up2_a h]; exact dGain_k I d x h j
    · exact dGain_k I d x h j
/-- one dog of lose -/
def dLose1 (I : Nat → Nat → Int32) (d j : Nat) (x : Int32) : Nat → Nat → Int32 :=
  if I (d + 2) j = 0 then
    if iMax 0 (I (d + 1) j - x) = 0 then up2 (up2 (up2 (up2 I (d + 1) j (iMax 0 (I (d + 1) j - x))) (d + 2) j 1) d 4 (I d 4 - 1)) d 5 (I d 5 + 1)
    else up2 I (d + 1) j (iMax 0 (I (d + 1) j - x))
  else I
def dLose (I : Nat → Nat → Int32) (d : Nat) (x : Int32) : Nat → Nat → Nat → Int32
  | 0 => I
  | j + 1 => dLose1 (dLose I d x j) d j x
theorem dLose1_k (I : Nat → Nat → Int32) (d j : Nat) (x : Int32) {b k : Nat} (h1 : b ≠ d + 1) (h2 : b ≠ d + 2) (h3 : b = d → k ≠ 4 ∧ k ≠ 5) : dLose1 I d j x b k = I b k := by
  unfold dLose1
  split
  · split
    · by_cases hb : b = d
      · obtain ⟨q1, q2⟩ := h3 hb
        rw [up2_k q2, up2_k q1, up2_a h2, up2_a h1]
      · rw [up2_a hb, up2_a hb, up2_a h2, up2_a h1]
    · rw [up2_a h1]
  · rfl
theorem dLose_k (I : Nat → Nat → Int32) (d : Nat) (x : Int32) {b k : Nat} (h1 : b ≠ d + 1) (h2 : b ≠ d + 2) (h3 : b = d → k ≠ 4 ∧ k ≠ 5) : ∀ j, dLose I d x j b k = I b k
  | 0 => rfl
  | j + 1 => by rw [dLose, dLose1_k _ d j x h1 h2 h3]; exact dLose_k I d x h1 h2 h3 j
def dLeaveW (I : Nat → Nat → Int32) (d m : Nat) (p : Int32) : Nat → Nat → Int32 := match dWeak I d m with
  | none => I
  | some b => up2 (up2 (up2 I (d + 2) b 2) (d + 3) b p) d 4 (I d 4 - 1)
/-- one dog of leaveCarried -/
def dLc1 (I : Nat → Nat → Int32) (d j : Nat) (p : Int32) : Nat → Nat → Int32 := if I (d + 2) j = 1 then up2 (up2 (up2 I (d + 2) j 2) (d + 3) j p) d 5 (I d 5 - 1) else I
def dLc (I : Nat → Nat → Int32) (d : Nat) (p : Int32) : Nat → Nat → Nat → Int32
  | 0 => I
  | j + 1 => if 0 < dLc I d p j d 5 then dLc1 (dLc I d p j) d j p else dLc I d p j
theorem dLc1_k (I : Nat → Nat → Int32) (d j : Nat) (p : Int32) {b k : Nat} (h1 : b ≠ d + 2) (h2 : b ≠ d + 3) (h3 : b = d → k ≠ 5) : dLc1 I d j p b k = I b k := by
  unfold dLc1
  split
  · by_cases hb : b = d
    · rw [up2_k (h3 hb), up2_a h2, up2_a h1]
    · rw [up2_a hb, up2_a h2, up2_a h1]
  · rfl
theorem dLc_k (I : Nat → Nat → Int32) (d : Nat) (p : Int32) {b k : Nat} (h1 : b ≠ d + 2) (h2 : b ≠ d + 3) (h3 : b = d → k ≠ 5) : ∀ j, dLc I d p j b k = I b k
  | 0 => rfl
  | j + 1 => by
    unfold dLc
    split
    · rw [dLc1_k _ d j p h1 h2 h3]; exact dLc_k I d p h1 h2 h3 j
    · exact dLc_k I d p h1 h2 h3 j
theorem dLc_stop (I : Nat → Nat → Int32) (d : Nat) (p : Int32) {j : Nat} (h : ¬ 0 < dLc I d p j d 5) : ∀ m, j ≤ m → dLc I d p m = dLc I d p j
  | 0, hm => by rw [show j = 0 by omega]
  | m + 1, hm => by
    by_cases hj : j = m + 1
    · rw [hj]
    · have ih := dLc_stop I d p h m (by omega)
      rw [dLc, ih, if_neg h]
theorem iMin16 {m : Nat} (h : m ≤ 16) : iMin (nI m) 16 = nI m := by
  unfold iMin
  rw [if_neg]
  exact nI_nlt (a := 16) (b := m) h (by decide)
set_option maxHeartbeats 2000000 in
set_option maxRecDepth 20000 in
/-- SledHouse$Dogs.begin -/
theorem c_dBegin {E : Ev} (GE : Glob E) (S : Nat → Option (Nat × Nat)) (I : Nat → Nat → Int32) (V : Nat → Nat → Option Nat) (J : Nat → Nat → Int64) (N : Nat) (d m : Nat) (hD : DogsSh S V d) (hm6 : m ≤ 16) : Ct E yX0_begin cX0_begin 3 none (rmL 1) [.ref d, .int (nI m)] (S, I, V, J, N) (fun v w' => v = none ∧ w' = (S, dBegin I d m, V, J, N)) := by
  refine Ct.start GE (by decide) rfl (Nat.le_of_ble_eq_true rfl) (fun M X => ?_)
  have X : Cx E M RX0 cX0_begin 3 (rmL 1) none "begin" := X
  refine r_loc (L' := [some (.ref d), some (.int (nI m)), none]) rfl ?_
  obtain ⟨hs0, hv0, hv1, hv2, hs1, hs2, hs3⟩ := hD
  refine r_aload_n X dX0_begin_0 rfl rfl ?_
  refine r_iload_n X dX0_begin_1 rfl rfl ?_
  refine r_bipush (v := 16) X dX0_begin_2 (by decide) ?_
  refine r_mmin X dX0_begin_4 mmX0_31 (by decide) (Nat.le_of_ble_eq_true rfl) (by first | omega | decide) (by first | omega | decide) ?_
  rw [iMin16 hm6]
  refine r_putI X dX0_begin_7 fX0_21 wX0_21 (by assumption) rfl rfl ?_
  refine r_aload_n X dX0_begin_10 rfl rfl ?_
  refine r_aload_n X dX0_begin_11 rfl rfl ?_
  refine r_getI X dX0_begin_12 fX0_21 (by assumption) (up2_same _ _ _ _) ?_
  refine r_putI X dX0_begin_15 fX0_25 wX0_25 (by assumption) rfl rfl ?_
  refine r_aload_n X dX0_begin_18 rfl rfl ?_
  refine r_iconst (v := 0) X dX0_begin_19 (by decide) ?_
  refine r_putI X dX0_begin_20 fX0_28 wX0_28 (by assumption) rfl rfl ?_
  refine r_iconst (v := nI 0) X dX0_begin_23 (by decide) ?_
  refine r_istore_n X dX0_begin_24 rfl (by decide) rfl ?_
  have H : ∀ j, j ≤ m → G E M 0 0 (qQ E M (rmL 1) (fun v w' => v = none ∧ w' = (S, dBegin I d m, V, J, N))) 25 [some (.ref d), some (.int (nI m)), some (.int (nI j))] [] (S, dBeg (up2 (up2 (up2 I d 3 (nI m)) d 4 (nI m)) d 5 0) d j, V, J, N) := by
    refine loopN m (fun j hj ih => ?_)
    have hj3 : dBeg (up2 (up2 (up2 I d 3 (nI m)) d 4 (nI m)) d 5 0) d j d 3 = nI m := by rw [dBeg_d]; simp [up2]
    refine r_iload_n X dX0_begin_25 rfl rfl ?_
    refine r_aload_n X dX0_begin_26 rfl rfl ?_
    refine r_getI X dX0_begin_27 fX0_21 (by assumption) (by first | assumption | rfl) ?_
    refine r_icmpN_ge (tgt := 62) X dX0_begin_30 (by decide) (by omega) (by omega) (fun h30 => ?_) (fun h30 => ?_)
    · skip
      refine r_return X dX0_begin_62 (by first | omega | decide) (by first | omega | decide) ?_
      exact ⟨rfl, by rw [show j = m by omega]; rfl⟩
    · skip
      refine r_aload_n X dX0_begin_33 rfl rfl ?_
      refine r_getR X dX0_begin_34 fX0_9 (by assumption) (by assumption) ?_
      refine r_iload_n X dX0_begin_37 rfl rfl ?_
      refine r_sipush (v := 1000) X dX0_begin_38 (by decide) ?_
      refine r_iastN X dX0_begin_41 (by assumption) (by omega) (by omega) ?_
      refine r_aload_n X dX0_begin_42 rfl rfl ?_
      refine r_getR X dX0_begin_43 fX0_15 (by assumption) (by assumption) ?_
      refine r_iload_n X dX0_begin_46 rfl rfl ?_
      refine r_iconst (v := 0) X dX0_begin_47 (by decide) ?_
      refine r_iastN X dX0_begin_48 (by assumption) (by omega) (by omega) ?_
      refine r_aload_n X dX0_begin_49 rfl rfl ?_
      refine r_getR X dX0_begin_50 fX0_18 (by assumption) (by assumption) ?_
      refine r_iload_n X dX0_begin_53 rfl rfl ?_
      refine r_iconst (v := -1) X dX0_begin_54 (by decide) ?_
      refine r_iastN X dX0_begin_55 (by assumption) (by omega) (by omega) ?_
      first | refine r_iincN X dX0_begin_56 rfl (by decide) rfl ?_ | refine r_iinc X dX0_begin_56 rfl rfl (by decide) rfl ?_
      refine r_goto (tgt := 25) X dX0_begin_59 (by decide) ?_
      exact ih (by omega)
  exact H 0 (by omega)
def dCopy (I : Nat → Nat → Int32) (d e : Nat) : Nat → Nat → Int32 := fun b k => if b = d ∧ (k = 3 ∨ k = 4 ∨ k = 5) then I e k else if b = d + 1 ∧ k < 16 then I (e + 1) k else if b = d + 2 ∧ k < 16 then I (e + 2) k else if b = d + 3 ∧ k < 16 then I (e + 3) k else I b k
theorem dCopy_eq (I : Nat → Nat → Int32) (d e : Nat) (hne : e + 3 < d ∨ d + 3 < e) : up2 (up2 (up2 (cpyI (cpyI (cpyI I (e + 1) (d + 1) 0 0 16) (e + 2) (d + 2) 0 0 16) (e + 3) (d + 3) 0 0 16) d 3 (I e 3)) d 4 (I e 4)) d 5 (I e 5) = dCopy I d e := by
  funext b k
  unfold dCopy up2 cpyI
  by_cases h0 : b = d
  · subst h0
    by_cases h3 : k = 3
    · subst h3; simp
    · by_cases h4 : k = 4
      · subst h4; simp
      · by_cases h5 : k = 5
        · subst h5; simp
        · simp [h3, h4, h5]
  · by_cases h1 : b = d + 1
    · subst h1
      simp
    · by_cases h2 : b = d + 2
      · subst h2
        simp [show ¬ e + 2 = d + 1 by omega]
      · by_cases h3 : b = d + 3
        · subst h3
          simp [show ¬ e + 3 = d + 1 by omega, show ¬ e + 3 = d + 2 by omega]
        · simp [h0, h1, h2, h3]
theorem cpyI_a {I : Nat → Nat → Int32} {a0 a1 sp dp n b k : Nat} (h : b ≠ a1) : cpyI I a0 a1 sp dp n b k = I b k := by simp [cpyI, h]
set_option maxHeartbeats 2000000 in
set_option maxRecDepth 20000 in
/-- SledHouse$Dogs.copyFrom -/
theorem c_dCopy {E : Ev} (GE : Glob E) (S : Nat → Option (Nat × Nat)) (I : Nat → Nat → Int32) (V : Nat → Nat → Option Nat) (J : Nat → Nat → Int64) (N : Nat) (d e : Nat) (hD : DogsSh S V d) (hE : DogsSh S V e) (hne : e + 3 < d ∨ d + 3 < e) : Ct E yX0_copyFrom cX0_copyFrom 2 none (rmL 1) [.ref d, .ref e] (S, I, V, J, N) (fun v w' => v = none ∧ w' = (S, dCopy I d e, V, J, N)) := by
  refine Ct.start GE (by decide) rfl (Nat.le_of_ble_eq_true rfl) (fun M X => ?_)
  have X : Cx E M RX0 cX0_copyFrom 2 (rmL 1) none "copyFrom" := X
  refine r_loc (L' := [some (.ref d), some (.ref e)]) rfl ?_
  obtain ⟨hs0, hv0, hv1, hv2, hs1, hs2, hs3⟩ := hD
  obtain ⟨gs0, gv0, gv1, gv2, gs1, gs2, gs3⟩ := hE
  refine r_aload_n X dX0_copyFrom_0 rfl rfl ?_
  refine r_getR X dX0_copyFrom_1 fX0_9 (by assumption) (by assumption) ?_
  refine r_iconst (v := nI 0) X dX0_copyFrom_4 (by decide) ?_
  refine r_aload_n X dX0_copyFrom_5 rfl rfl ?_
  refine r_getR X dX0_copyFrom_6 fX0_9 (by assumption) (by assumption) ?_
  refine r_iconst (v := nI 0) X dX0_copyFrom_9 (by decide) ?_
  refine r_bipush (v := nI 16) X dX0_copyFrom_10 (by decide) ?_
  refine r_copyI X dX0_copyFrom_12 mmX0_37 (by assumption) (by assumption) (by omega) (by omega) (by omega) (by omega) (by decide) (Nat.le_of_ble_eq_true rfl) ?_
  refine r_aload_n X dX0_copyFrom_15 rfl rfl ?_
  refine r_getR X dX0_copyFrom_16 fX0_15 (by assumption) (by assumption) ?_
  refine r_iconst (v := nI 0) X dX0_copyFrom_19 (by decide) ?_
  refine r_aload_n X dX0_copyFrom_20 rfl rfl ?_
  refine r_getR X dX0_copyFrom_21 fX0_15 (by assumption) (by assumption) ?_
  refine r_iconst (v := nI 0) X dX0_copyFrom_24 (by decide) ?_
  refine r_bipush (v := nI 16) X dX0_copyFrom_25 (by decide) ?_
  refine r_copyI X dX0_copyFrom_27 mmX0_37 (by assumption) (by assumption) (by omega) (by omega) (by omega) (by omega) (by decide) (Nat.le_of_ble_eq_true rfl) ?_
  refine r_aload_n X dX0_copyFrom_30 rfl rfl ?_
  refine r_getR X dX0_copyFrom_31 fX0_18 (by assumption) (by assumption) ?_
  refine r_iconst (v := nI 0) X dX0_copyFrom_34 (by decide) ?_
  refine r_aload_n X dX0_copyFrom_35 rfl rfl ?_
  refine r_getR X dX0_copyFrom_36 fX0_18 (by assumption) (by assumption) ?_
  refine r_iconst (v := nI 0) X dX0_copyFrom_39 (by decide) ?_
  refine r_bipush (v := nI 16) X dX0_copyFrom_40 (by decide) ?_
  refine r_copyI X dX0_copyFrom_42 mmX0_37 (by assumption) (by assumption) (by omega) (by omega) (by omega) (by omega) (by decide) (Nat.le_of_ble_eq_true rfl) ?_
  refine r_aload_n X dX0_copyFrom_45 rfl rfl ?_
  refine r_aload_n X dX0_copyFrom_46 rfl rfl ?_
  refine r_getI X dX0_copyFrom_47 fX0_21 (by assumption) (by rw [cpyI_a (by omega), cpyI_a (by omega), cpyI_a (by omega)]) ?_
  refine r_putI X dX0_copyFrom_50 fX0_21 wX0_21 (by assumption) rfl rfl ?_
  refine r_aload_n X dX0_copyFrom_53 rfl rfl ?_
  refine r_aload_n X dX0_copyFrom_54 rfl rfl ?_
  refine r_getI X dX0_copyFrom_55 fX0_25 (by assumption) (by rw [up2_a (by omega), cpyI_a (by omega), cpyI_a (by omega), cpyI_a (by omega)]) ?_
  refine r_putI X dX0_copyFrom_58 fX0_25 wX0_25 (by assumption) rfl rfl ?_
  refine r_aload_n X dX0_copyFrom_61 rfl rfl ?_
  refine r_aload_n X dX0_copyFrom_62 rfl rfl ?_
  refine r_getI X dX0_copyFrom_63 fX0_28 (by assumption) (by rw [up2_a (by omega), up2_a (by omega), cpyI_a (by omega), cpyI_a (by omega), cpyI_a (by omega)]) ?_
  refine r_putI X dX0_copyFrom_66 fX0_28 wX0_28 (by assumption) rfl rfl ?_
  refine r_return X dX0_copyFrom_69 (by first | omega | decide) (by first | omega | decide) ?_
  exact ⟨rfl, by rw [dCopy_eq I d e hne]⟩
set_option maxHeartbeats 2000000 in
set_option maxRecDepth 20000 in
/-- SledHouse$Dogs.meanStrength -/
theorem c_dMean {E : Ev} (GE : Glob E) (S : Nat → Option (Nat × Nat)) (I : Nat → Nat → Int32) (V : Nat → Nat → Option Nat) (J : Nat → Nat → Int64) (N : Nat) (d m : Nat) (hD : DogsSh S V d) (hm : I d 3 = nI m) (hm6 : m ≤ 16) : Ct E yX0_meanStrength cX0_meanStrength 3 (some .int) (rmL 1) [.ref d] (S, I, V, J, N) (fun v w' => v = some (.int (dMean I d m)) ∧ w' = (S, I, V, J, N)) := by
  refine Ct.start GE (by decide) rfl (Nat.le_of_ble_eq_true rfl) (fun M X => ?_)
  have X : Cx E M RX0 cX0_meanStrength 3 (rmL 1) (some .int) "meanStrength" := X
  refine r_loc (L' := [some (.ref d), none, none]) rfl ?_
  obtain ⟨hs0, hv0, hv1, hv2, hs1, hs2, hs3⟩ := hD
  refine r_iconst (v := 0) X dX0_meanStrength_0 (by decide) ?_
  refine r_istore_n X dX0_meanStrength_1 rfl (by decide) rfl ?_
  refine r_iconst (v := nI 0) X dX0_meanStrength_2 (by decide) ?_
  refine r_istore_n X dX0_meanStrength_3 rfl (by decide) rfl ?_
  have H : ∀ j, j ≤ m → G E M 0 0 (qQ E M (rmL 1) (fun v w' => v = some (.int (dMean I d m)) ∧ w' = (S, I, V, J, N))) 4 [some (.ref d), some (.int (dSum I d j)), some (.int (nI j))] [] (S, I, V, J, N) := by
    refine loopN m (fun j hj ih => ?_)
    refine r_iload_n X dX0_meanStrength_4 rfl rfl ?_
    refine r_aload_n X dX0_meanStrength_5 rfl rfl ?_
    refine r_getI X dX0_meanStrength_6 fX0_21 (by assumption) (by first | assumption | rfl) ?_
    refine r_icmpN_ge (tgt := 36) X dX0_meanStrength_9 (by decide) (by omega) (by omega) (fun h9 => ?_) (fun h9 => ?_)
    · skip
      refine r_aload_n X dX0_meanStrength_36 rfl rfl ?_
      refine r_getI X dX0_meanStrength_37 fX0_25 (by assumption) (by first | assumption | rfl) ?_
      refine r_if_le (tgt := 52) X dX0_meanStrength_40 (by decide) (fun h40 => ?_) (fun h40 => ?_)
      · skip
        refine r_iconst (v := 0) X dX0_meanStrength_52 (by decide) ?_
        refine r_ireturn X dX0_meanStrength_53 rfl (by first | omega | decide) (by first | omega | decide) ?_
        obtain rfl : j = m := by omega
        refine ⟨?_, rfl⟩
        have h40 := h40
        first | (rw [dMean, if_neg (fun q => Int32.not_le.mpr q h40)]; done) | (rw [dMean, if_pos (Int32.not_le.mp h40)]; done)
      · skip
        refine r_iload_n X dX0_meanStrength_43 rfl rfl ?_
        refine r_aload_n X dX0_meanStrength_44 rfl rfl ?_
        refine r_getI X dX0_meanStrength_45 fX0_25 (by assumption) (by first | assumption | rfl) ?_
        refine r_idiv X dX0_meanStrength_48 (fun q => by rw [q] at h40; exact h40 (by decide)) ?_
        refine r_goto (tgt := 53) X dX0_meanStrength_49 (by decide) ?_
        refine r_ireturn X dX0_meanStrength_53 rfl (by first | omega | decide) (by first | omega | decide) ?_
        obtain rfl : j = m := by omega
        refine ⟨?_, rfl⟩
        have h40 := h40
        first | (rw [dMean, if_neg (fun q => Int32.not_le.mpr q h40)]; done) | (rw [dMean, if_pos (Int32.not_le.mp h40)]; done)
    · skip
      refine r_aload_n X dX0_meanStrength_12 rfl rfl ?_
      refine r_getR X dX0_meanStrength_13 fX0_15 (by assumption) (by assumption) ?_
      refine r_iload_n X dX0_meanStrength_16 rfl rfl ?_
      refine r_ialdN X dX0_meanStrength_17 (by assumption) (by omega) (by omega) (by first | assumption | rfl) ?_
      refine r_if_ne (tgt := 30) X dX0_meanStrength_18 (by decide) (fun h18 => ?_) (fun h18 => ?_)
      · skip
        first | refine r_iincN X dX0_meanStrength_30 rfl (by decide) rfl ?_ | refine r_iinc X dX0_meanStrength_30 rfl rfl (by decide) rfl ?_
        refine r_goto (tgt := 4) X dX0_meanStrength_33 (by decide) ?_
        exact r_loc (by simp [dSum, h18]) (ih (by omega))
      · skip
        refine r_iload_n X dX0_meanStrength_21 rfl rfl ?_
        refine r_aload_n X dX0_meanStrength_22 rfl rfl ?_
        refine r_getR X dX0_meanStrength_23 fX0_9 (by assumption) (by assumption) ?_
        refine r_iload_n X dX0_meanStrength_26 rfl rfl ?_
        refine r_ialdN X dX0_meanStrength_27 (by assumption) (by omega) (by omega) (by first | assumption | rfl) ?_
        refine r_iadd X dX0_meanStrength_28 ?_
        refine r_istore_n X dX0_meanStrength_29 rfl (by decide) rfl ?_
        first | refine r_iincN X dX0_meanStrength_30 rfl (by decide) rfl ?_ | refine r_iinc X dX0_meanStrength_30 rfl rfl (by decide) rfl ?_
        refine r_goto (tgt := 4) X dX0_meanStrength_33 (by decide) ?_
        exact r_loc (by simp [dSum, h18]) (ih (by omega))
  exact H 0 (by omega)
set_option maxHeartbeats 2000000 in
set_option maxRecDepth 20000 in
/-- SledHouse$Dogs.leastStrength -/
theorem c_dLeast {E : Ev} (GE : Glob E) (S : Nat → Option (Nat × Nat)) (I : Nat → Nat → Int32) (V : Nat → Nat → Option Nat) (J : Nat → Nat → Int64) (N : Nat) (d m : Nat) (hD : DogsSh S V d) (hm : I d 3 = nI m) (hm6 : m ≤ 16) : Ct E yX0_leastStrength cX0_leastStrength 3 (some .int) (rmL 1) [.ref d] (S, I, V, J, N) (fun v w' => v = some (.int (iMax 0 (dLeast I d m))) ∧ w' = (S, I, V, J, N)) := by
  refine Ct.start GE (by decide) rfl (Nat.le_of_ble_eq_true rfl) (fun M X => ?_)
  have X : Cx E M RX0 cX0_leastStrength 3 (rmL 1) (some .int) "leastStrength" := X
  refine r_loc (L' := [some (.ref d), none, none]) rfl ?_
  obtain ⟨hs0, hv0, hv1, hv2, hs1, hs2, hs3⟩ := hD
  refine r_iconst (v := -1) X dX0_leastStrength_0 (by decide) ?_
  refine r_istore_n X dX0_leastStrength_1 rfl (by decide) rfl ?_
  refine r_iconst (v := nI 0) X dX0_leastStrength_2 (by decide) ?_
  refine r_istore_n X dX0_leastStrength_3 rfl (by decide) rfl ?_
  have H : ∀ j, j ≤ m → G E M 0 0 (qQ E M (rmL 1) (fun v w' => v = some (.int (iMax 0 (dLeast I d m))) ∧ w' = (S, I, V, J, N))) 4 [some (.ref d), some (.int (dLeast I d j)), some (.int (nI j))] [] (S, I, V, J, N) := by
    refine loopN m (fun j hj ih => ?_)
    refine r_iload_n X dX0_leastStrength_4 rfl rfl ?_
    refine r_aload_n X dX0_leastStrength_5 rfl rfl ?_
    refine r_getI X dX0_leastStrength_6 fX0_21 (by assumption) (by first | assumption | rfl) ?_
    refine r_icmpN_ge (tgt := 49) X dX0_leastStrength_9 (by decide) (by omega) (by omega) (fun h9 => ?_) (fun h9 => ?_)
    · skip
      refine r_iconst (v := 0) X dX0_leastStrength_49 (by decide) ?_
      refine r_iload_n X dX0_leastStrength_50 rfl rfl ?_
      refine r_mmax X dX0_leastStrength_51 mmX0_43 (by decide) (Nat.le_of_ble_eq_true rfl) (by first | omega | decide) (by first | omega | decide) ?_
      refine r_ireturn X dX0_leastStrength_54 rfl (by first | omega | decide) (by first | omega | decide) ?_
      obtain rfl : j = m := by omega
      exact ⟨rfl, rfl⟩
    · skip
      refine r_aload_n X dX0_leastStrength_12 rfl rfl ?_
      refine r_getR X dX0_leastStrength_13 fX0_15 (by assumption) (by assumption) ?_
      refine r_iload_n X dX0_leastStrength_16 rfl rfl ?_
      refine r_ialdN X dX0_leastStrength_17 (by assumption) (by omega) (by omega) (by first | assumption | rfl) ?_
      refine r_if_ne (tgt := 43) X dX0_leastStrength_18 (by decide) (fun h18 => ?_) (fun h18 => ?_)
      · skip
        first | refine r_iincN X dX0_leastStrength_43 rfl (by decide) rfl ?_ | refine r_iinc X dX0_leastStrength_43 rfl rfl (by decide) rfl ?_
        refine r_goto (tgt := 4) X dX0_leastStrength_46 (by decide) ?_
        exact r_loc (by first | (simp [dLeast, *]; done) | (simp [dLeast, h18, h23, Int32.not_lt.mpr h33]; done) | (simp [dLeast, h18, Int32.not_le.mp h33]; done)) (ih (by omega))
      · skip
        refine r_iload_n X dX0_leastStrength_21 rfl rfl ?_
        refine r_iconst (v := -1) X dX0_leastStrength_22 (by decide) ?_
        refine r_icmp_eq (tgt := 36) X dX0_leastStrength_23 (by decide) (fun h23 => ?_) (fun h23 => ?_)
        · skip
          refine r_aload_n X dX0_leastStrength_36 rfl rfl ?_
          refine r_getR X dX0_leastStrength_37 fX0_9 (by assumption) (by assumption) ?_
          refine r_iload_n X dX0_leastStrength_40 rfl rfl ?_
          refine r_ialdN X dX0_leastStrength_41 (by assumption) (by omega) (by omega) (by first | assumption | rfl) ?_
          refine r_istore_n X dX0_leastStrength_42 rfl (by decide) rfl ?_
          first | refine r_iincN X dX0_leastStrength_43 rfl (by decide) rfl ?_ | refine r_iinc X dX0_leastStrength_43 rfl rfl (by decide) rfl ?_
          refine r_goto (tgt := 4) X dX0_leastStrength_46 (by decide) ?_
          exact r_loc (by first | (simp [dLeast, *]; done) | (simp [dLeast, h18, h23, Int32.not_lt.mpr h33]; done) | (simp [dLeast, h18, Int32.not_le.mp h33]; done)) (ih (by omega))
        · skip
          refine r_aload_n X dX0_leastStrength_26 rfl rfl ?_
          refine r_getR X dX0_leastStrength_27 fX0_9 (by assumption) (by assumption) ?_
          refine r_iload_n X dX0_leastStrength_30 rfl rfl ?_
          refine r_ialdN X dX0_leastStrength_31 (by assumption) (by omega) (by omega) (by first | assumption | rfl) ?_
          refine r_iload_n X dX0_leastStrength_32 rfl rfl ?_
          refine r_icmp_ge (tgt := 43) X dX0_leastStrength_33 (by decide) (fun h33 => ?_) (fun h33 => ?_)
          · skip
            first | refine r_iincN X dX0_leastStrength_43 rfl (by decide) rfl ?_ | refine r_iinc X dX0_leastStrength_43 rfl rfl (by decide) rfl ?_
            refine r_goto (tgt := 4) X dX0_leastStrength_46 (by decide) ?_
            exact r_loc (by first | (simp [dLeast, *]; done) | (simp [dLeast, h18, h23, Int32.not_lt.mpr h33]; done) | (simp [dLeast, h18, Int32.not_le.mp h33]; done)) (ih (by omega))
          · skip
            refine r_aload_n X dX0_leastStrength_36 rfl rfl ?_
            refine r_getR X dX0_leastStrength_37 fX0_9 (by assumption) (by assumption) ?_
            refine r_iload_n X dX0_leastStrength_40 rfl rfl ?_
            refine r_ialdN X dX0_leastStrength_41 (by assumption) (by omega) (by omega) (by first | assumption | rfl) ?_
            refine r_istore_n X dX0_leastStrength_42 rfl (by decide) rfl ?_
            first | refine r_iincN X dX0_leastStrength_43 rfl (by decide) rfl ?_ | refine r_iinc X dX0_leastStrength_43 rfl rfl (by decide) rfl ?_
            refine r_goto (tgt := 4) X dX0_leastStrength_46 (by decide) ?_
            exact r_loc (by first | (simp [dLeast, *]; done) | (simp [dLeast, h18, h23, Int32.not_lt.mpr h33]; done) | (simp [dLeast, h18, Int32.not_le.mp h33]; done)) (ih (by omega))
  exact H 0 (by omega)
set_option maxHeartbeats 2000000 in
set_option maxRecDepth 20000 in
/-- SledHouse$Dogs.weakest -/
theorem c_dWeak {E : Ev} (GE : Glob E) (S : Nat → Option (Nat × Nat)) (I : Nat → Nat → Int32) (V : Nat → Nat → Option Nat) (J : Nat → Nat → Int64) (N : Nat) (d m : Nat) (hD : DogsSh S V d) (hm : I d 3 = nI m) (hm6 : m ≤ 16) : Ct E yX0_weakest cX0_weakest 3 (some .int) (rmL 0) [.ref d] (S, I, V, J, N) (fun v w' => v = some (.int (oI (dWeak I d m))) ∧ w' = (S, I, V, J, N)) := by
  refine Ct.start GE (by decide) rfl (Nat.le_of_ble_eq_true rfl) (fun M X => ?_)
  have X : Cx E M RX0 cX0_weakest 3 (rmL 0) (some .int) "weakest" := X
  refine r_loc (L' := [some (.ref d), none, none]) rfl ?_
  obtain ⟨hs0, hv0, hv1, hv2, hs1, hs2, hs3⟩ := hD
  refine r_iconst (v := -1) X dX0_weakest_0 (by decide) ?_
  refine r_istore_n X dX0_weakest_1 rfl (by decide) rfl ?_
  refine r_iconst (v := nI 0) X dX0_weakest_2 (by decide) ?_
  refine r_istore_n X dX0_weakest_3 rfl (by decide) rfl ?_
  have H : ∀ j, j ≤ m → G E M 0 0 (qQ E M (rmL 0) (fun v w' => v = some (.int (oI (dWeak I d m))) ∧ w' = (S, I, V, J, N))) 4 [some (.ref d), some (.int (oI (dWeak I d j))), some (.int (nI j))] [] (S, I, V, J, N) := by
    refine loopN m (fun j hj ih => ?_)
    rcases hw : dWeak I d j with _ | wk
    · refine r_loc (L' := [some (.ref d), some (.int (-1)), some (.int (nI j))]) rfl ?_
      refine r_iload_n X dX0_weakest_4 rfl rfl ?_
      refine r_aload_n X dX0_weakest_5 rfl rfl ?_
      refine r_getI X dX0_weakest_6 fX0_21 (by assumption) (by first | assumption | rfl) ?_
      refine r_icmpN_ge (tgt := 49) X dX0_weakest_9 (by decide) (by omega) (by omega) (fun h9 => ?_) (fun h9 => ?_)
      · skip
        refine r_iload_n X dX0_weakest_49 rfl rfl ?_
        refine r_ireturn X dX0_weakest_50 rfl (by first | omega | decide) (by first | omega | decide) ?_
        obtain rfl : j = m := by omega
        exact ⟨by rw [hw]; rfl, rfl⟩
      · skip
        refine r_aload_n X dX0_weakest_12 rfl rfl ?_
        refine r_getR X dX0_weakest_13 fX0_15 (by assumption) (by assumption) ?_
        refine r_iload_n X dX0_weakest_16 rfl rfl ?_
        refine r_ialdN X dX0_weakest_17 (by assumption) (by omega) (by omega) (by first | assumption | rfl) ?_
        refine r_if_ne (tgt := 43) X dX0_weakest_18 (by decide) (fun h18 => ?_) (fun h18 => ?_)
        · skip
          first | refine r_iincN X dX0_weakest_43 rfl (by decide) rfl ?_ | refine r_iinc X dX0_weakest_43 rfl rfl (by decide) rfl ?_
          refine r_goto (tgt := 4) X dX0_weakest_46 (by decide) ?_
          exact r_loc (by simp [dWeak, hw, h18, oI]) (ih (by omega))
        · skip
          refine r_iload_n X dX0_weakest_21 rfl rfl ?_
          refine r_iconst (v := -1) X dX0_weakest_22 (by decide) ?_
          refine r_icmp_eq (tgt := 41) X dX0_weakest_23 (by decide) (fun h23 => ?_) (fun h23 => ?_)
          · skip
            refine r_iload_n X dX0_weakest_41 rfl rfl ?_
            refine r_istore_n X dX0_weakest_42 rfl (by decide) rfl ?_
            first | refine r_iincN X dX0_weakest_43 rfl (by decide) rfl ?_ | refine r_iinc X dX0_weakest_43 rfl rfl (by decide) rfl ?_
            refine r_goto (tgt := 4) X dX0_weakest_46 (by decide) ?_
            exact r_loc (by simp [dWeak, hw, h18, oI]) (ih (by omega))
          · skip
            exact absurd rfl h23
    · have hwl := dWeak_lt I d j wk hw
      refine r_loc (L' := [some (.ref d), some (.int (nI wk)), some (.int (nI j))]) rfl ?_
      refine r_iload_n X dX0_weakest_4 rfl rfl ?_
      refine r_aload_n X dX0_weakest_5 rfl rfl ?_
      refine r_getI X dX0_weakest_6 fX0_21 (by assumption) (by first | assumption | rfl) ?_
      refine r_icmpN_ge (tgt := 49) X dX0_weakest_9 (by decide) (by omega) (by omega) (fun h9 => ?_) (fun h9 => ?_)
      · skip
        refine r_iload_n X dX0_weakest_49 rfl rfl ?_
        refine r_ireturn X dX0_weakest_50 rfl (by first | omega | decide) (by first | omega | decide) ?_
        obtain rfl : j = m := by omega
        exact ⟨by rw [hw]; rfl, rfl⟩
      · skip
        refine r_aload_n X dX0_weakest_12 rfl rfl ?_
        refine r_getR X dX0_weakest_13 fX0_15 (by assumption) (by assumption) ?_
        refine r_iload_n X dX0_weakest_16 rfl rfl ?_
        refine r_ialdN X dX0_weakest_17 (by assumption) (by omega) (by omega) (by first | assumption | rfl) ?_
        refine r_if_ne (tgt := 43) X dX0_weakest_18 (by decide) (fun h18 => ?_) (fun h18 => ?_)
        · skip
          first | refine r_iincN X dX0_weakest_43 rfl (by decide) rfl ?_ | refine r_iinc X dX0_weakest_43 rfl rfl (by decide) rfl ?_
          refine r_goto (tgt := 4) X dX0_weakest_46 (by decide) ?_
          exact r_loc (by first | (simp [dWeak, hw, h18, oI]; done) | (simp [dWeak, hw, h18, oI, Int32.not_lt.mpr h38]; done) | (simp [dWeak, hw, h18, oI, Int32.not_le.mp h38]; done)) (ih (by omega))
        · skip
          refine r_iload_n X dX0_weakest_21 rfl rfl ?_
          refine r_iconst (v := -1) X dX0_weakest_22 (by decide) ?_
          refine r_icmp_eq (tgt := 41) X dX0_weakest_23 (by decide) (fun h23 => ?_) (fun h23 => ?_)
          · skip
            exact absurd (show (-1 : Int32) < 0 by decide) (by rw [← h23]; exact nI_pos (by omega))
          · skip
            refine r_aload_n X dX0_weakest_26 rfl rfl ?_
            refine r_getR X dX0_weakest_27 fX0_9 (by assumption) (by assumption) ?_
            refine r_iload_n X dX0_weakest_30 rfl rfl ?_
            refine r_ialdN X dX0_weakest_31 (by assumption) (by omega) (by omega) (by first | assumption | rfl) ?_
            refine r_aload_n X dX0_weakest_32 rfl rfl ?_
            refine r_getR X dX0_weakest_33 fX0_9 (by assumption) (by assumption) ?_
            refine r_iload_n X dX0_weakest_36 rfl rfl ?_
            refine r_ialdN X dX0_weakest_37 (by assumption) (by omega) (by omega) (by first | assumption | rfl) ?_
            refine r_icmp_ge (tgt := 43) X dX0_weakest_38 (by decide) (fun h38 => ?_) (fun h38 => ?_)
            · skip
              first | refine r_iincN X dX0_weakest_43 rfl (by decide) rfl ?_ | refine r_iinc X dX0_weakest_43 rfl rfl (by decide) rfl ?_
              refine r_goto (tgt := 4) X dX0_weakest_46 (by decide) ?_
              exact r_loc (by first | (simp [dWeak, hw, h18, oI]; done) | (simp [dWeak, hw, h18, oI, Int32.not_lt.mpr h38]; done) | (simp [dWeak, hw, h18, oI, Int32.not_le.mp h38]; done)) (ih (by omega))
            · skip
              refine r_iload_n X dX0_weakest_41 rfl rfl ?_
              refine r_istore_n X dX0_weakest_42 rfl (by decide) rfl ?_
              first | refine r_iincN X dX0_weakest_43 rfl (by decide) rfl ?_ | refine r_iinc X dX0_weakest_43 rfl rfl (by decide) rfl ?_
              refine r_goto (tgt := 4) X dX0_weakest_46 (by decide) ?_
              exact r_loc (by first | (simp [dWeak, hw, h18, oI]; done) | (simp [dWeak, hw, h18, oI, Int32.not_lt.mpr h38]; done) | (simp [dWeak, hw, h18, oI, Int32.not_le.mp h38]; done)) (ih (by omega))
  exact H 0 (by omega)
set_option maxHeartbeats 2000000 in
set_option maxRecDepth 20000 in
/-- SledHouse$Dogs.gain -/
theorem c_dGain {E : Ev} (GE : Glob E) (S : Nat → Option (Nat × Nat)) (I : Nat → Nat → Int32) (V : Nat → Nat → Option Nat) (J : Nat → Nat → Int64) (N : Nat) (d m : Nat) (x : Int32) (hD : DogsSh S V d) (hm : I d 3 = nI m) (hm6 : m ≤ 16) : Ct E yX0_gain cX0_gain 3 none (rmL 1) [.ref d, .int x] (S, I, V, J, N) (fun v w' => v = none ∧ w' = (S, dGain I d x m, V, J, N)) := by
  refine Ct.start GE (by decide) rfl (Nat.le_of_ble_eq_true rfl) (fun M X => ?_)
  have X : Cx E M RX0 cX0_gain 3 (rmL 1) none "gain" := X
  refine r_loc (L' := [some (.ref d), some (.int x), none]) rfl ?_
  obtain ⟨hs0, hv0, hv1, hv2, hs1, hs2, hs3⟩ := hD
  refine r_iconst (v := nI 0) X dX0_gain_0 (by decide) ?_
  refine r_istore_n X dX0_gain_1 rfl (by decide) rfl ?_
  have H : ∀ j, j ≤ m → G E M 0 0 (qQ E M (rmL 1) (fun v w' => v = none ∧ w' = (S, dGain I d x m, V, J, N))) 2 [some (.ref d), some (.int x), some (.int (nI j))] [] (S, dGain I d x j, V, J, N) := by
    refine loopN m (fun j hj ih => ?_)
    have hj3 : dGain I d x j d 3 = nI m := by rw [dGain_k _ _ _ (by omega)]; exact hm
    refine r_iload_n X dX0_gain_2 rfl rfl ?_
    refine r_aload_n X dX0_gain_3 rfl rfl ?_
    refine r_getI X dX0_gain_4 fX0_21 (by assumption) (by first | assumption | rfl) ?_
    refine r_icmpN_ge (tgt := 45) X dX0_gain_7 (by decide) (by omega) (by omega) (fun h7 => ?_) (fun h7 => ?_)
    · skip
      refine r_return X dX0_gain_45 (by first | omega | decide) (by first | omega | decide) ?_
      obtain rfl : j = m := by omega
      exact ⟨rfl, rfl⟩
    · skip
      refine r_aload_n X dX0_gain_10 rfl rfl ?_
      refine r_getR X dX0_gain_11 fX0_15 (by assumption) (by assumption) ?_
      refine r_iload_n X dX0_gain_14 rfl rfl ?_
      refine r_ialdN X dX0_gain_15 (by assumption) (by omega) (by omega) (by first | assumption | rfl) ?_
      refine r_if_ne (tgt := 39) X dX0_gain_16 (by decide) (fun h16 => ?_) (fun h16 => ?_)
      · skip
        first | refine r_iincN X dX0_gain_39 rfl (by decide) rfl ?_ | refine r_iinc X dX0_gain_39 rfl rfl (by decide) rfl ?_
        refine r_goto (tgt := 2) X dX0_gain_42 (by decide) ?_
        exact r_world (by rw [dGain]; simp only [h16, if_true, if_false]) (ih (by omega))
      · skip
        refine r_aload_n X dX0_gain_19 rfl rfl ?_
        refine r_getR X dX0_gain_20 fX0_9 (by assumption) (by assumption) ?_
        refine r_iload_n X dX0_gain_23 rfl rfl ?_
        refine r_sipush (v := 1000) X dX0_gain_24 (by decide) ?_
        refine r_aload_n X dX0_gain_27 rfl rfl ?_
        refine r_getR X dX0_gain_28 fX0_9 (by assumption) (by assumption) ?_
        refine r_iload_n X dX0_gain_31 rfl rfl ?_
        refine r_ialdN X dX0_gain_32 (by assumption) (by omega) (by omega) (by first | assumption | rfl) ?_
        refine r_iload_n X dX0_gain_33 rfl rfl ?_
        refine r_iadd X dX0_gain_34 ?_
        refine r_mmin X dX0_gain_35 mmX0_31 (by decide) (Nat.le_of_ble_eq_true rfl) (by first | omega | decide) (by first | omega | decide) ?_
        refine r_iastN X dX0_gain_38 (by assumption) (by omega) (by omega) ?_
        first | refine r_iincN X dX0_gain_39 rfl (by decide) rfl ?_ | refine r_iinc X dX0_gain_39 rfl rfl (by decide) rfl ?_
        refine r_goto (tgt := 2) X dX0_gain_42 (by decide) ?_
        exact r_world (by rw [dGain]; simp only [h16, if_true, if_false]) (ih (by omega))
  exact H 0 (by omega)
set_option maxHeartbeats 2000000 in
set_option maxRecDepth 20000 in
/-- SledHouse$Dogs.lose -/
theorem c_dLose {E : Ev} (GE : Glob E) (S : Nat → Option (Nat × Nat)) (I : Nat → Nat → Int32) (V : Nat → Nat → Option Nat) (J : Nat → Nat → Int64) (N : Nat) (d m : Nat) (x : Int32) (hD : DogsSh S V d) (hm : I d 3 = nI m) (hm6 : m ≤ 16) : Ct E yX0_lose cX0_lose 3 none (rmL 1) [.ref d, .int x] (S, I, V, J, N) (fun v w' => v = none ∧ w' = (S, dLose I d x m, V, J, N)) := by
  refine Ct.start GE (by decide) rfl (Nat.le_of_ble_eq_true rfl) (fun M X => ?_)
  have X : Cx E M RX0 cX0_lose 3 (rmL 1) none "lose" := X
  refine r_loc (L' := [some (.ref d), some (.int x), none]) rfl ?_
  obtain ⟨hs0, hv0, hv1, hv2, hs1, hs2, hs3⟩ := hD
  refine r_iconst (v := nI 0) X dX0_lose_0 (by decide) ?_
  refine r_istore_n X dX0_lose_1 rfl (by decide) rfl ?_
  have H : ∀ j, j ≤ m → G E M 0 0 (qQ E M (rmL 1) (fun v w' => v = none ∧ w' = (S, dLose I d x m, V, J, N))) 2 [some (.ref d), some (.int x), some (.int (nI j))] [] (S, dLose I d x j, V, J, N) := by
    refine loopN m (fun j hj ih => ?_)
    have hj3 : dLose I d x j d 3 = nI m := by rw [dLose_k _ _ _ (by omega) (by omega) (fun _ => by decide)]; exact hm
    refine r_iload_n X dX0_lose_2 rfl rfl ?_
    refine r_aload_n X dX0_lose_3 rfl rfl ?_
    refine r_getI X dX0_lose_4 fX0_21 (by assumption) (by first | assumption | rfl) ?_
    refine r_icmpN_ge (tgt := 79) X dX0_lose_7 (by decide) (by omega) (by omega) (fun h7 => ?_) (fun h7 => ?_)
    · skip
      refine r_return X dX0_lose_79 (by first | omega | decide) (by first | omega | decide) ?_
      obtain rfl : j = m := by omega
      exact ⟨rfl, rfl⟩
    · skip
      refine r_aload_n X dX0_lose_10 rfl rfl ?_
      refine r_getR X dX0_lose_11 fX0_15 (by assumption) (by assumption) ?_
      refine r_iload_n X dX0_lose_14 rfl rfl ?_
      refine r_ialdN X dX0_lose_15 (by assumption) (by omega) (by omega) (by first | assumption | rfl) ?_
      refine r_if_ne (tgt := 73) X dX0_lose_16 (by decide) (fun h16 => ?_) (fun h16 => ?_)
      · skip
        first | refine r_iincN X dX0_lose_73 rfl (by decide) rfl ?_ | refine r_iinc X dX0_lose_73 rfl rfl (by decide) rfl ?_
        refine r_goto (tgt := 2) X dX0_lose_76 (by decide) ?_
        exact r_world (by rw [dLose, dLose1]; simp only [*, if_true, if_false]) (ih (by omega))
      · skip
        refine r_aload_n X dX0_lose_19 rfl rfl ?_
        refine r_getR X dX0_lose_20 fX0_9 (by assumption) (by assumption) ?_
        refine r_iload_n X dX0_lose_23 rfl rfl ?_
        refine r_iconst (v := 0) X dX0_lose_24 (by decide) ?_
        refine r_aload_n X dX0_lose_25 rfl rfl ?_
        refine r_getR X dX0_lose_26 fX0_9 (by assumption) (by assumption) ?_
        refine r_iload_n X dX0_lose_29 rfl rfl ?_
        refine r_ialdN X dX0_lose_30 (by assumption) (by omega) (by omega) (by first | assumption | rfl) ?_
        refine r_iload_n X dX0_lose_31 rfl rfl ?_
        refine r_isub X dX0_lose_32 ?_
        refine r_mmax X dX0_lose_33 mmX0_43 (by decide) (Nat.le_of_ble_eq_true rfl) (by first | omega | decide) (by first | omega | decide) ?_
        refine r_iastN X dX0_lose_36 (by assumption) (by omega) (by omega) ?_
        refine r_aload_n X dX0_lose_37 rfl rfl ?_
        refine r_getR X dX0_lose_38 fX0_9 (by assumption) (by assumption) ?_
        refine r_iload_n X dX0_lose_41 rfl rfl ?_
        refine r_ialdN X dX0_lose_42 (by assumption) (by omega) (by omega) (up2_same _ _ _ _) ?_
        refine r_if_ne (tgt := 73) X dX0_lose_43 (by decide) (fun h43 => ?_) (fun h43 => ?_)
        · skip
          first | refine r_iincN X dX0_lose_73 rfl (by decide) rfl ?_ | refine r_iinc X dX0_lose_73 rfl rfl (by decide) rfl ?_
          refine r_goto (tgt := 2) X dX0_lose_76 (by decide) ?_
          exact r_world (by rw [dLose, dLose1]; simp only [*, if_true, if_false]) (ih (by omega))
        · skip
          refine r_aload_n X dX0_lose_46 rfl rfl ?_
          refine r_getR X dX0_lose_47 fX0_15 (by assumption) (by assumption) ?_
          refine r_iload_n X dX0_lose_50 rfl rfl ?_
          refine r_iconst (v := 1) X dX0_lose_51 (by decide) ?_
          refine r_iastN X dX0_lose_52 (by assumption) (by omega) (by omega) ?_
          refine r_aload_n X dX0_lose_53 rfl rfl ?_
          refine r_dup X dX0_lose_54 rfl ?_
          refine r_getI X dX0_lose_55 fX0_25 (by assumption) (by rw [up2_a (by omega), up2_a (by omega)]) ?_
          refine r_iconst (v := 1) X dX0_lose_58 (by decide) ?_
          refine r_isub X dX0_lose_59 ?_
          refine r_putI X dX0_lose_60 fX0_25 wX0_25 (by assumption) rfl rfl ?_
          refine r_aload_n X dX0_lose_63 rfl rfl ?_
          refine r_dup X dX0_lose_64 rfl ?_
          refine r_getI X dX0_lose_65 fX0_28 (by assumption) (by rw [up2_k (by decide), up2_a (by omega), up2_a (by omega)]) ?_
          refine r_iconst (v := 1) X dX0_lose_68 (by decide) ?_
          refine r_iadd X dX0_lose_69 ?_
          refine r_putI X dX0_lose_70 fX0_28 wX0_28 (by assumption) rfl rfl ?_
          first | refine r_iincN X dX0_lose_73 rfl (by decide) rfl ?_ | refine r_iinc X dX0_lose_73 rfl rfl (by decide) rfl ?_
          refine r_goto (tgt := 2) X dX0_lose_76 (by decide) ?_
          exact r_world (by rw [dLose, dLose1]; simp only [*, if_true, if_false]) (ih (by omega))
  exact H 0 (by omega)
set_option maxHeartbeats 2000000 in
set_option maxRecDepth 20000 in
/-- SledHouse$Dogs.leaveWeakest -/
theorem c_dLeaveW {E : Ev} (GE : Glob E) (S : Nat → Option (Nat × Nat)) (I : Nat → Nat → Int32) (V : Nat → Nat → Option Nat) (J : Nat → Nat → Int64) (N : Nat) (d m : Nat) (p : Int32) (hD : DogsSh S V d) (hm : I d 3 = nI m) (hm6 : m ≤ 16) : Ct E yX0_leaveWeakest cX0_leaveWeakest 3 none (rmL 1) [.ref d, .int p] (S, I, V, J, N) (fun v w' => v = none ∧ w' = (S, dLeaveW I d m p, V, J, N)) := by
  refine Ct.start GE (by decide) rfl (Nat.le_of_ble_eq_true rfl) (fun M X => ?_)
  have X : Cx E M RX0 cX0_leaveWeakest 3 (rmL 1) none "leaveWeakest" := X
  refine r_loc (L' := [some (.ref d), some (.int p), none]) rfl ?_
  have hD' := hD
  obtain ⟨hs0, hv0, hv1, hv2, hs1, hs2, hs3⟩ := hD
  refine r_aload_n X dX0_leaveWeakest_0 rfl rfl ?_
  refine q_callV X dX0_leaveWeakest_1 mX0_46 cwX0_weakest (c_dWeak GE S I V J N d m hD' hm hm6) rfl (by assumption) rfl rfl rfl (Nat.le_of_ble_eq_true rfl) ⟨by decide, by decide⟩ ⟨by decide, by decide⟩ ?_
  rintro _ _ ⟨rfl, rfl⟩
  rcases hw : dWeak I d m with _ | wk
  · refine r_topi (-1) rfl ?_
    refine r_istore_n X dX0_leaveWeakest_4 rfl (by decide) rfl ?_
    refine r_iload_n X dX0_leaveWeakest_5 rfl rfl ?_
    refine r_iconst (v := -1) X dX0_leaveWeakest_6 (by decide) ?_
    refine r_icmp_eq (tgt := 34) X dX0_leaveWeakest_7 (by decide) (fun h7 => ?_) (fun h7 => ?_)
    · skip
      refine r_return X dX0_leaveWeakest_34 (by first | omega | decide) (by first | omega | decide) ?_
      exact ⟨rfl, by simp [dLeaveW, hw]⟩
    · skip
      exact absurd rfl h7
  · have hwl := dWeak_lt I d m wk hw
    refine r_topi (nI wk) rfl ?_
    refine r_istore_n X dX0_leaveWeakest_4 rfl (by decide) rfl ?_
    refine r_iload_n X dX0_leaveWeakest_5 rfl rfl ?_
    refine r_iconst (v := -1) X dX0_leaveWeakest_6 (by decide) ?_
    refine r_icmp_eq (tgt := 34) X dX0_leaveWeakest_7 (by decide) (fun h7 => ?_) (fun h7 => ?_)
    · skip
      exact absurd (show (-1 : Int32) < 0 by decide) (by rw [← h7]; exact nI_pos (by omega))
    · skip
      refine r_aload_n X dX0_leaveWeakest_10 rfl rfl ?_
      refine r_getR X dX0_leaveWeakest_11 fX0_15 (by assumption) (by assumption) ?_
      refine r_iload_n X dX0_leaveWeakest_14 rfl rfl ?_
      refine r_iconst (v := 2) X dX0_leaveWeakest_15 (by decide) ?_
      refine r_iastN X dX0_leaveWeakest_16 (by assumption) (by omega) (by omega) ?_
      refine r_aload_n X dX0_leaveWeakest_17 rfl rfl ?_
      refine r_getR X dX0_leaveWeakest_18 fX0_18 (by assumption) (by assumption) ?_
      refine r_iload_n X dX0_leaveWeakest_21 rfl rfl ?_
      refine r_iload_n X dX0_leaveWeakest_22 rfl rfl ?_
      refine r_iastN X dX0_leaveWeakest_23 (by assumption) (by omega) (by omega) ?_
      refine r_aload_n X dX0_leaveWeakest_24 rfl rfl ?_
      refine r_dup X dX0_leaveWeakest_25 rfl ?_
      refine r_getI X dX0_leaveWeakest_26 fX0_25 (by assumption) (by rw [up2_a (by omega), up2_a (by omega)]) ?_
      refine r_iconst (v := 1) X dX0_leaveWeakest_29 (by decide) ?_
      refine r_isub X dX0_leaveWeakest_30 ?_
      refine r_putI X dX0_leaveWeakest_31 fX0_25 wX0_25 (by assumption) rfl rfl ?_
      refine r_return X dX0_leaveWeakest_34 (by first | omega | decide) (by first | omega | decide) ?_
      exact ⟨rfl, by simp [dLeaveW, hw]⟩
set_option maxHeartbeats 2000000 in
set_option maxRecDepth 20000 in
/-- SledHouse$Dogs.leaveCarried -/
theorem c_dLc {E : Ev} (GE : Glob E) (S : Nat → Option (Nat × Nat)) (I : Nat → Nat → Int32) (V : Nat → Nat → Option Nat) (J : Nat → Nat → Int64) (N : Nat) (d m : Nat) (p : Int32) (hD : DogsSh S V d) (hm : I d 3 = nI m) (hm6 : m ≤ 16) : Ct E yX0_leaveCarried cX0_leaveCarried 3 none (rmL 0) [.ref d, .int p] (S, I, V, J, N) (fun v w' => v = none ∧ w' = (S, dLc I d p m, V, J, N)) := by
  refine Ct.start GE (by decide) rfl (Nat.le_of_ble_eq_true rfl) (fun M X => ?_)
  have X : Cx E M RX0 cX0_leaveCarried 3 (rmL 0) none "leaveCarried" := X
  refine r_loc (L' := [some (.ref d), some (.int p), none]) rfl ?_
  obtain ⟨hs0, hv0, hv1, hv2, hs1, hs2, hs3⟩ := hD
  refine r_iconst (v := nI 0) X dX0_leaveCarried_0 (by decide) ?_
  refine r_istore_n X dX0_leaveCarried_1 rfl (by decide) rfl ?_
  have H : ∀ j, j ≤ m → G E M 0 0 (qQ E M (rmL 0) (fun v w' => v = none ∧ w' = (S, dLc I d p m, V, J, N))) 2 [some (.ref d), some (.int p), some (.int (nI j))] [] (S, dLc I d p j, V, J, N) := by
    refine loopN m (fun j hj ih => ?_)
    have hj3 : dLc I d p j d 3 = nI m := by rw [dLc_k _ _ _ (by omega) (by omega) (fun _ => by decide)]; exact hm
    refine r_iload_n X dX0_leaveCarried_2 rfl rfl ?_
    refine r_aload_n X dX0_leaveCarried_3 rfl rfl ?_
    refine r_getI X dX0_leaveCarried_4 fX0_21 (by assumption) (by first | assumption | rfl) ?_
    refine r_icmpN_ge (tgt := 57) X dX0_leaveCarried_7 (by decide) (by omega) (by omega) (fun h7 => ?_) (fun h7 => ?_)
    · skip
      refine r_return X dX0_leaveCarried_57 (by first | omega | decide) (by first | omega | decide) ?_
      refine ⟨rfl, ?_⟩
      first | (rw [show j = m by omega]; done) | (rw [dLc_stop I d p (Int32.not_lt.mpr h14) m (by omega)]; done)
    · skip
      refine r_aload_n X dX0_leaveCarried_10 rfl rfl ?_
      refine r_getI X dX0_leaveCarried_11 fX0_28 (by assumption) (by first | assumption | rfl) ?_
      refine r_if_le (tgt := 57) X dX0_leaveCarried_14 (by decide) (fun h14 => ?_) (fun h14 => ?_)
      · skip
        refine r_return X dX0_leaveCarried_57 (by first | omega | decide) (by first | omega | decide) ?_
        refine ⟨rfl, ?_⟩
        first | (rw [show j = m by omega]; done) | (rw [dLc_stop I d p (Int32.not_lt.mpr h14) m (by omega)]; done)
      · skip
        refine r_aload_n X dX0_leaveCarried_17 rfl rfl ?_
        refine r_getR X dX0_leaveCarried_18 fX0_15 (by assumption) (by assumption) ?_
        refine r_iload_n X dX0_leaveCarried_21 rfl rfl ?_
        refine r_ialdN X dX0_leaveCarried_22 (by assumption) (by omega) (by omega) (by first | assumption | rfl) ?_
        refine r_iconst (v := nI 1) X dX0_leaveCarried_23 (by decide) ?_
        refine r_icmp_ne (tgt := 51) X dX0_leaveCarried_24 (by decide) (fun h24 => ?_) (fun h24 => ?_)
        · skip
          first | refine r_iincN X dX0_leaveCarried_51 rfl (by decide) rfl ?_ | refine r_iinc X dX0_leaveCarried_51 rfl rfl (by decide) rfl ?_
          refine r_goto (tgt := 2) X dX0_leaveCarried_54 (by decide) ?_
          exact r_world (by rw [dLc, if_pos (Int32.not_le.mp h14), dLc1]; first | (rw [if_pos (by assumption)]; done) | (rw [if_neg (by assumption)]; done)) (ih (by omega))
        · skip
          refine r_aload_n X dX0_leaveCarried_27 rfl rfl ?_
          refine r_getR X dX0_leaveCarried_28 fX0_15 (by assumption) (by assumption) ?_
          refine r_iload_n X dX0_leaveCarried_31 rfl rfl ?_
          refine r_iconst (v := 2) X dX0_leaveCarried_32 (by decide) ?_
          refine r_iastN X dX0_leaveCarried_33 (by assumption) (by omega) (by omega) ?_
          refine r_aload_n X dX0_leaveCarried_34 rfl rfl ?_
          refine r_getR X dX0_leaveCarried_35 fX0_18 (by assumption) (by assumption) ?_
          refine r_iload_n X dX0_leaveCarried_38 rfl rfl ?_
          refine r_iload_n X dX0_leaveCarried_39 rfl rfl ?_
          refine r_iastN X dX0_leaveCarried_40 (by assumption) (by omega) (by omega) ?_
          refine r_aload_n X dX0_leaveCarried_41 rfl rfl ?_
          refine r_dup X dX0_leaveCarried_42 rfl ?_
          refine r_getI X dX0_leaveCarried_43 fX0_28 (by assumption) (by rw [up2_a (by omega), up2_a (by omega)]) ?_
          refine r_iconst (v := 1) X dX0_leaveCarried_46 (by decide) ?_
          refine r_isub X dX0_leaveCarried_47 ?_
          refine r_putI X dX0_leaveCarried_48 fX0_28 wX0_28 (by assumption) rfl rfl ?_
          first | refine r_iincN X dX0_leaveCarried_51 rfl (by decide) rfl ?_ | refine r_iinc X dX0_leaveCarried_51 rfl rfl (by decide) rfl ?_
          refine r_goto (tgt := 2) X dX0_leaveCarried_54 (by decide) ?_
          exact r_world (by rw [dLc, if_pos (Int32.not_le.mp h14), dLc1]; first | (rw [if_pos (by assumption)]; done) | (rw [if_neg (by assumption)]; done)) (ih (by omega))
  exact H 0 (by omega)
