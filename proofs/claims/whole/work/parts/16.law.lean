/-! ===== SledHouse$LawBook: what laws ask of a team ===== -/
def LawSh (S : Nat → Option (Nat × Nat)) (V : Nat → Nat → Option Nat) (b : Nat) : Prop := S b = some (2, 0) ∧ V b 0 = some (b + 1) ∧ V b 1 = some (b + 2) ∧ V b 2 = some (b + 3) ∧ V b 3 = some (b + 4) ∧ S (b + 1) = some (100, 10) ∧ S (b + 2) = some (100, 10) ∧ S (b + 3) = some (100, 10) ∧ S (b + 4) = some (100, 10)
def lPart (I : Mem) (b i : Nat) (x : Int32) : Int32 := if x = 0 then I (b + 1) i else if x = 1 then I (b + 2) i else if x = 2 then I (b + 3) i else if x = 3 then I (b + 4) i else -1
set_option maxHeartbeats 2000000 in
set_option maxRecDepth 20000 in
/-- SledHouse$LawBook.part -/
theorem c_lPart {E : Ev} (GE : Glob E) (S : Nat → Option (Nat × Nat)) (I : Nat → Nat → Int32) (V : Nat → Nat → Option Nat) (J : Nat → Nat → Int64) (N : Nat) (b i : Nat) (x : Int32) (hL : LawSh S V b) (hi : i < 10) : Ct E yX2_part cX2_part 3 (some .int) (rmL 0) [.ref b, .int (nI i), .int x] (S, I, V, J, N) (fun v w' => v = some (.int (lPart I b i x)) ∧ w' = (S, I, V, J, N)) := by
  refine Ct.start GE (by decide) rfl (Nat.le_of_ble_eq_true rfl) (fun M X => ?_)
  have X : Cx E M RX2 cX2_part 3 (rmL 0) (some .int) "part" := X
  refine r_loc (L' := [some (.ref b), some (.int (nI i)), some (.int x)]) rfl ?_
  obtain ⟨hs0, hv0, hv1, hv2, hv3, hs1, hs2, hs3, hs4⟩ := hL
  refine r_iload_n X dX2_part_0 rfl rfl ?_
  refine r_sw (0) (fun h1_0 => ?_) (fun h1_0 => ?_)
  · skip
    refine r_tableIn (off := 31) (tgt := 32) X dX2_part_1 (by rw [h1_0]; decide) (by rw [h1_0]; decide) (by rw [h1_0]; rfl) (by decide) ?_
    refine r_aload_n X dX2_part_32 rfl rfl ?_
    refine r_getR X dX2_part_33 fX2_9 (by assumption) (by assumption) ?_
    refine r_iload_n X dX2_part_36 rfl rfl ?_
    refine r_ialdN X dX2_part_37 (by assumption) (by omega) (by omega) (by first | assumption | rfl) ?_
    refine r_ireturn X dX2_part_38 rfl (by first | omega | decide) (by first | omega | decide) ?_
    exact ⟨by simp [lPart, *], rfl⟩
  · skip
    refine r_sw (1) (fun h1_1 => ?_) (fun h1_1 => ?_)
    · skip
      refine r_tableIn (off := 38) (tgt := 39) X dX2_part_1 (by rw [h1_1]; decide) (by rw [h1_1]; decide) (by rw [h1_1]; rfl) (by decide) ?_
      refine r_aload_n X dX2_part_39 rfl rfl ?_
      refine r_getR X dX2_part_40 fX2_15 (by assumption) (by assumption) ?_
      refine r_iload_n X dX2_part_43 rfl rfl ?_
      refine r_ialdN X dX2_part_44 (by assumption) (by omega) (by omega) (by first | assumption | rfl) ?_
      refine r_ireturn X dX2_part_45 rfl (by first | omega | decide) (by first | omega | decide) ?_
      exact ⟨by simp [lPart, *], rfl⟩
    · skip
      refine r_sw (2) (fun h1_2 => ?_) (fun h1_2 => ?_)
      · skip
        refine r_tableIn (off := 45) (tgt := 46) X dX2_part_1 (by rw [h1_2]; decide) (by rw [h1_2]; decide) (by rw [h1_2]; rfl) (by decide) ?_
        refine r_aload_n X dX2_part_46 rfl rfl ?_
        refine r_getR X dX2_part_47 fX2_18 (by assumption) (by assumption) ?_
        refine r_iload_n X dX2_part_50 rfl rfl ?_
        refine r_ialdN X dX2_part_51 (by assumption) (by omega) (by omega) (by first | assumption | rfl) ?_
        refine r_ireturn X dX2_part_52 rfl (by first | omega | decide) (by first | omega | decide) ?_
        exact ⟨by simp [lPart, *], rfl⟩
      · skip
        refine r_sw (3) (fun h1_3 => ?_) (fun h1_3 => ?_)
        · skip
          refine r_tableIn (off := 52) (tgt := 53) X dX2_part_1 (by rw [h1_3]; decide) (by rw [h1_3]; decide) (by rw [h1_3]; rfl) (by decide) ?_
          refine r_aload_n X dX2_part_53 rfl rfl ?_
          refine r_getR X dX2_part_54 fX2_21 (by assumption) (by assumption) ?_
          refine r_iload_n X dX2_part_57 rfl rfl ?_
          refine r_ialdN X dX2_part_58 (by assumption) (by omega) (by omega) (by first | assumption | rfl) ?_
          refine r_ireturn X dX2_part_59 rfl (by first | omega | decide) (by first | omega | decide) ?_
          exact ⟨by simp [lPart, *], rfl⟩
        · skip
          refine r_tableOut (tgt := 60) X dX2_part_1 (by have e0 := lv_neT (a := 0) h1_0 (by decide); have e1 := lv_neT (a := 1) h1_1 (by decide); have e2 := lv_neT (a := 2) h1_2 (by decide); have e3 := lv_neT (a := 3) h1_3 (by decide); omega) (by decide) ?_
          refine r_iconst (v := -1) X dX2_part_60 (by decide) ?_
          refine r_ireturn X dX2_part_61 rfl (by first | omega | decide) (by first | omega | decide) ?_
          exact ⟨by simp [lPart, *], rfl⟩
def leastTo (I : Mem) (t : Nat) (x : Int32) (f : Nat) : Nat → Int32
  | 0 => x
  | j + 1 => iMin (leastTo I t x f j) (x - tRested I t (f + j))
def lLeast (I : Mem) (t : Nat) (x : Int32) (f g n : Nat) : Int32 := if g < f ∨ n ≤ g then 0 else iMax 0 (leastTo I t x f (g + 1 - f))
set_option maxHeartbeats 2000000 in
set_option maxRecDepth 20000 in
/-- SledHouse$LawBook.leastLack -/
theorem c_lLeast {E : Ev} (GE : Glob E) (S : Nat → Option (Nat × Nat)) (I : Nat → Nat → Int32) (V : Nat → Nat → Option Nat) (J : Nat → Nat → Int64) (N : Nat) (t f g n : Nat) (x : Int32) (hT : TeamSh S V t) (hf : f < 10000) (hg : g < 10000) (hn : n ≤ 12) : Ct E yX2_leastLack cX2_leastLack 7 (some .int) (rmL 1) [.int x, .int (nI f), .int (nI g), .ref t, .int (nI n)] (S, I, V, J, N) (fun v w' => v = some (.int (lLeast I t x f g n)) ∧ w' = (S, I, V, J, N)) := by
  refine Ct.start GE (by decide) rfl (Nat.le_of_ble_eq_true rfl) (fun M X => ?_)
  have X : Cx E M RX2 cX2_leastLack 7 (rmL 1) (some .int) "leastLack" := X
  refine r_loc (L' := [some (.int x), some (.int (nI f)), some (.int (nI g)), some (.ref t), some (.int (nI n)), none, none]) rfl ?_
  have hT0 := hT.1
  refine r_iload_n X dX2_leastLack_0 rfl rfl ?_
  refine r_iload_n X dX2_leastLack_1 rfl rfl ?_
  refine r_icmpN_gt (tgt := 11) X dX2_leastLack_2 (by decide) (by omega) (by omega) (fun h2 => ?_) (fun h2 => ?_)
  · skip
    refine r_iconst (v := 0) X dX2_leastLack_11 (by decide) ?_
    refine r_ireturn X dX2_leastLack_12 rfl (by first | omega | decide) (by first | omega | decide) ?_
    exact ⟨by rw [lLeast, if_pos (by omega)], rfl⟩
  · skip
    refine r_iload_n X dX2_leastLack_5 rfl rfl ?_
    refine r_iload X dX2_leastLack_6 rfl ?_
    refine r_icmpN_lt (tgt := 13) X dX2_leastLack_8 (by decide) (by omega) (by omega) (fun h8 => ?_) (fun h8 => ?_)
    · skip
      refine r_iload_n X dX2_leastLack_13 rfl rfl ?_
      refine r_istore X dX2_leastLack_14 (by decide) rfl ?_
      refine r_iload_n X dX2_leastLack_16 rfl rfl ?_
      refine r_istore X dX2_leastLack_17 (by decide) rfl ?_
      have H : ∀ j, j ≤ (g + 1 - f) → G E M 0 0 (qQ E M (rmL 1) (fun v w' => v = some (.int (lLeast I t x f g n)) ∧ w' = (S, I, V, J, N))) 19 [some (.int x), some (.int (nI f)), some (.int (nI g)), some (.ref t), some (.int (nI n)), some (.int (leastTo I t x f j)), some (.int (nI (f + j)))] [] (S, I, V, J, N) := by
        refine loopN (g + 1 - f) (fun j hj ih => ?_)
        refine r_iload X dX2_leastLack_19 rfl ?_
        refine r_iload_n X dX2_leastLack_21 rfl rfl ?_
        refine r_icmpN_gt (tgt := 46) X dX2_leastLack_22 (by decide) (by omega) (by omega) (fun h22 => ?_) (fun h22 => ?_)
        · skip
          refine r_iconst (v := 0) X dX2_leastLack_46 (by decide) ?_
          refine r_iload X dX2_leastLack_47 rfl ?_
          refine r_mmax X dX2_leastLack_49 mmX2_96 (Nat.le_of_ble_eq_true rfl) (Nat.le_of_ble_eq_true rfl) (by first | omega | decide) (by first | omega | decide) ?_
          refine r_ireturn X dX2_leastLack_52 rfl (by first | omega | decide) (by first | omega | decide) ?_
          exact ⟨by rw [lLeast, if_neg (by omega), show g + 1 - f = j by omega], rfl⟩
        · skip
          refine r_iload X dX2_leastLack_25 rfl ?_
          refine r_iload_n X dX2_leastLack_27 rfl rfl ?_
          refine r_aload_n X dX2_leastLack_28 rfl rfl ?_
          refine r_iload X dX2_leastLack_29 rfl ?_
          refine q_callV X dX2_leastLack_31 mX2_102 cwX8_restedAt (c_tRested GE S I V J N t _ hT (by omega)) rfl (by assumption) rfl rfl rfl (Nat.le_of_ble_eq_true rfl) ⟨Nat.le_of_ble_eq_true rfl, Nat.le_of_ble_eq_true rfl⟩ ⟨by first | omega | decide, by first | omega | decide⟩ ?_
          rintro _ _ ⟨rfl, rfl⟩
          refine r_isub X dX2_leastLack_34 ?_
          refine r_mmin X dX2_leastLack_35 mmX2_106 (Nat.le_of_ble_eq_true rfl) (Nat.le_of_ble_eq_true rfl) (by first | omega | decide) (by first | omega | decide) ?_
          refine r_istore X dX2_leastLack_38 (by decide) rfl ?_
          first | refine r_iincN X dX2_leastLack_40 rfl (by decide) rfl ?_ | refine r_iinc X dX2_leastLack_40 rfl rfl (by decide) rfl ?_
          refine r_goto (tgt := 19) X dX2_leastLack_43 (by decide) ?_
          exact ih (by omega)
      exact H 0 (by omega)
    · skip
      refine r_iconst (v := 0) X dX2_leastLack_11 (by decide) ?_
      refine r_ireturn X dX2_leastLack_12 rfl (by first | omega | decide) (by first | omega | decide) ?_
      exact ⟨by rw [lLeast, if_pos (by omega)], rfl⟩
def lF (I : Mem) (b i : Nat) : Nat := (I (b + 3) i).toNatClampNeg
def lG (I : Mem) (b i : Nat) : Nat := (I (b + 4) i).toNatClampNeg
/-- k laws, their numbers below 10000 -/
def LawOK (I : Mem) (b k : Nat) : Prop := I b 4 = nI k ∧ k ≤ 10 ∧ ∀ i, i < k → I (b + 3) i = nI (lF I b i) ∧ lF I b i < 10000 ∧ I (b + 4) i = nI (lG I b i) ∧ lG I b i < 10000
def lLack (I : Mem) (b t n i : Nat) : Int32 := if I (b + 1) i = 0 then lLeast I t (I (b + 2) i) (lF I b i) (lF I b i) n else if I (b + 1) i = 1 then lLeast I t (I (b + 2) i) (lF I b i) (lG I b i) n else if I (b + 1) i = 2 then iMax 0 (I (b + 2) i - I (t + 1) 4) else 0
set_option maxHeartbeats 2000000 in
set_option maxRecDepth 20000 in
/-- SledHouse$LawBook.lackOf -/
theorem c_lLack {E : Ev} (GE : Glob E) (S : Nat → Option (Nat × Nat)) (I : Nat → Nat → Int32) (V : Nat → Nat → Option Nat) (J : Nat → Nat → Int64) (N : Nat) (b t n i k : Nat) (hL : LawSh S V b) (hT : TeamSh S V t) (hO : LawOK I b k) (hi : i < k) (hn : n ≤ 12) : Ct E yX2_lackOf cX2_lackOf 4 (some .int) (rmL 2) [.ref b, .int (nI i), .ref t, .int (nI n)] (S, I, V, J, N) (fun v w' => v = some (.int (lLack I b t n i)) ∧ w' = (S, I, V, J, N)) := by
  refine Ct.start GE (by decide) rfl (Nat.le_of_ble_eq_true rfl) (fun M X => ?_)
  have X : Cx E M RX2 cX2_lackOf 4 (rmL 2) (some .int) "lackOf" := X
  refine r_loc (L' := [some (.ref b), some (.int (nI i)), some (.ref t), some (.int (nI n))]) rfl ?_
  have hT' := hT
  obtain ⟨hs0, hv0, hv1, hv2, hv3, hs1, hs2, hs3, hs4⟩ := hL
  obtain ⟨ts0, tv0, -, -, -, ⟨td, -⟩, -⟩ := hT
  obtain ⟨-, hk, hq⟩ := hO
  obtain ⟨hf, hf2, hg, hg2⟩ := hq i hi
  refine r_aload_n X dX2_lackOf_0 rfl rfl ?_
  refine r_getR X dX2_lackOf_1 fX2_9 (by assumption) (by assumption) ?_
  refine r_iload_n X dX2_lackOf_4 rfl rfl ?_
  refine r_ialdN X dX2_lackOf_5 (by assumption) (by omega) (by omega) (by first | assumption | rfl) ?_
  refine r_sw (0) (fun h6_0 => ?_) (fun h6_0 => ?_)
  · skip
    refine r_tableIn (off := 26) (tgt := 32) X dX2_lackOf_6 (by rw [h6_0]; decide) (by rw [h6_0]; decide) (by rw [h6_0]; rfl) (by decide) ?_
    refine r_aload_n X dX2_lackOf_32 rfl rfl ?_
    refine r_getR X dX2_lackOf_33 fX2_15 (by assumption) (by assumption) ?_
    refine r_iload_n X dX2_lackOf_36 rfl rfl ?_
    refine r_ialdN X dX2_lackOf_37 (by assumption) (by omega) (by omega) (by first | assumption | rfl) ?_
    refine r_aload_n X dX2_lackOf_38 rfl rfl ?_
    refine r_getR X dX2_lackOf_39 fX2_18 (by assumption) (by assumption) ?_
    refine r_iload_n X dX2_lackOf_42 rfl rfl ?_
    refine r_ialdN X dX2_lackOf_43 (by assumption) (by omega) (by omega) (by first | assumption | rfl) ?_
    refine r_aload_n X dX2_lackOf_44 rfl rfl ?_
    refine r_getR X dX2_lackOf_45 fX2_18 (by assumption) (by assumption) ?_
    refine r_iload_n X dX2_lackOf_48 rfl rfl ?_
    refine r_ialdN X dX2_lackOf_49 (by assumption) (by omega) (by omega) (by first | assumption | rfl) ?_
    refine r_aload_n X dX2_lackOf_50 rfl rfl ?_
    refine r_iload_n X dX2_lackOf_51 rfl rfl ?_
    refine q_callS X dX2_lackOf_52 mX2_82 cwX2_leastLack (c_lLeast GE S I V J N t _ _ n _ hT' hf2 hf2 hn) rfl rfl (Nat.le_of_ble_eq_true rfl) ⟨Nat.le_of_ble_eq_true rfl, Nat.le_of_ble_eq_true rfl⟩ ⟨by first | omega | decide, by first | omega | decide⟩ ?_
    rintro _ _ ⟨rfl, rfl⟩
    refine r_ireturn X dX2_lackOf_55 rfl (by first | omega | decide) (by first | omega | decide) ?_
    exact ⟨by simp [lLack, *], rfl⟩
  · skip
    refine r_sw (1) (fun h6_1 => ?_) (fun h6_1 => ?_)
    · skip
      refine r_tableIn (off := 50) (tgt := 56) X dX2_lackOf_6 (by rw [h6_1]; decide) (by rw [h6_1]; decide) (by rw [h6_1]; rfl) (by decide) ?_
      refine r_aload_n X dX2_lackOf_56 rfl rfl ?_
      refine r_getR X dX2_lackOf_57 fX2_15 (by assumption) (by assumption) ?_
      refine r_iload_n X dX2_lackOf_60 rfl rfl ?_
      refine r_ialdN X dX2_lackOf_61 (by assumption) (by omega) (by omega) (by first | assumption | rfl) ?_
      refine r_aload_n X dX2_lackOf_62 rfl rfl ?_
      refine r_getR X dX2_lackOf_63 fX2_18 (by assumption) (by assumption) ?_
      refine r_iload_n X dX2_lackOf_66 rfl rfl ?_
      refine r_ialdN X dX2_lackOf_67 (by assumption) (by omega) (by omega) (by first | assumption | rfl) ?_
      refine r_aload_n X dX2_lackOf_68 rfl rfl ?_
      refine r_getR X dX2_lackOf_69 fX2_21 (by assumption) (by assumption) ?_
      refine r_iload_n X dX2_lackOf_72 rfl rfl ?_
      refine r_ialdN X dX2_lackOf_73 (by assumption) (by omega) (by omega) (by first | assumption | rfl) ?_
      refine r_aload_n X dX2_lackOf_74 rfl rfl ?_
      refine r_iload_n X dX2_lackOf_75 rfl rfl ?_
      refine q_callS X dX2_lackOf_76 mX2_82 cwX2_leastLack (c_lLeast GE S I V J N t _ _ n _ hT' hf2 hg2 hn) rfl rfl (Nat.le_of_ble_eq_true rfl) ⟨Nat.le_of_ble_eq_true rfl, Nat.le_of_ble_eq_true rfl⟩ ⟨by first | omega | decide, by first | omega | decide⟩ ?_
      rintro _ _ ⟨rfl, rfl⟩
      refine r_ireturn X dX2_lackOf_79 rfl (by first | omega | decide) (by first | omega | decide) ?_
      exact ⟨by simp [lLack, *], rfl⟩
    · skip
      refine r_sw (2) (fun h6_2 => ?_) (fun h6_2 => ?_)
      · skip
        refine r_tableIn (off := 74) (tgt := 80) X dX2_lackOf_6 (by rw [h6_2]; decide) (by rw [h6_2]; decide) (by rw [h6_2]; rfl) (by decide) ?_
        refine r_iconst (v := 0) X dX2_lackOf_80 (by decide) ?_
        refine r_aload_n X dX2_lackOf_81 rfl rfl ?_
        refine r_getR X dX2_lackOf_82 fX2_15 (by assumption) (by assumption) ?_
        refine r_iload_n X dX2_lackOf_85 rfl rfl ?_
        refine r_ialdN X dX2_lackOf_86 (by assumption) (by omega) (by omega) (by first | assumption | rfl) ?_
        refine r_aload_n X dX2_lackOf_87 rfl rfl ?_
        refine r_getR X dX2_lackOf_88 fX2_86 (by assumption) (by assumption) ?_
        refine r_getI X dX2_lackOf_91 fX2_91 (by assumption) (by first | assumption | rfl) ?_
        refine r_isub X dX2_lackOf_94 ?_
        refine r_mmax X dX2_lackOf_95 mmX2_96 (Nat.le_of_ble_eq_true rfl) (Nat.le_of_ble_eq_true rfl) (by first | omega | decide) (by first | omega | decide) ?_
        refine r_ireturn X dX2_lackOf_98 rfl (by first | omega | decide) (by first | omega | decide) ?_
        exact ⟨by simp [lLack, *], rfl⟩
      · skip
        refine r_tableOut (tgt := 99) X dX2_lackOf_6 (by have e0 := lv_neT (a := 0) h6_0 (by decide); have e1 := lv_neT (a := 1) h6_1 (by decide); have e2 := lv_neT (a := 2) h6_2 (by decide); omega) (by decide) ?_
        refine r_iconst (v := 0) X dX2_lackOf_99 (by decide) ?_
        refine r_ireturn X dX2_lackOf_100 rfl (by first | omega | decide) (by first | omega | decide) ?_
        exact ⟨by simp [lLack, *], rfl⟩
def lSt (I : Mem) (b t n : Nat) : Nat → Int32
  | 0 => 0
  | j + 1 => if I (b + 1) j = 3 then lSt I b t n j else if I (b + 1) j = 2 then lSt I b t n j else lSt I b t n j + lLack I b t n j
def lDg (I : Mem) (b t n : Nat) : Nat → Int32
  | 0 => 0
  | j + 1 => if I (b + 1) j = 3 then lDg I b t n j else if I (b + 1) j = 2 then lDg I b t n j + lLack I b t n j else lDg I b t n j
def lF1 (I : Mem) (b : Nat) : Nat → Int32
  | 0 => 2
  | j + 1 => if I (b + 1) j = 3 then I (b + 2) j else lF1 I b j
def lF2 (I : Mem) (b : Nat) : Nat → Int32
  | 0 => 60
  | j + 1 => if I (b + 1) j = 3 then I (b + 3) j else lF2 I b j
def lRes (I : Mem) (b t n k : Nat) : Int32 := I (t + 8) n - I t 6 + lF1 I b k * lSt I b t n k + lF2 I b k * lDg I b t n k
set_option maxHeartbeats 2000000 in
set_option maxRecDepth 20000 in
/-- SledHouse$LawBook.resultOf -/
theorem c_lRes {E : Ev} (GE : Glob E) (S : Nat → Option (Nat × Nat)) (I : Nat → Nat → Int32) (V : Nat → Nat → Option Nat) (J : Nat → Nat → Int64) (N : Nat) (b t n k : Nat) (hL : LawSh S V b) (hT : TeamSh S V t) (hO : LawOK I b k) (hn : n ≤ 12) : Ct E yX2_resultOf cX2_resultOf 8 (some .int) (rmL 3) [.ref b, .ref t, .int (nI n)] (S, I, V, J, N) (fun v w' => v = some (.int (lRes I b t n k)) ∧ w' = (S, I, V, J, N)) := by
  refine Ct.start GE (by decide) rfl (Nat.le_of_ble_eq_true rfl) (fun M X => ?_)
  have X : Cx E M RX2 cX2_resultOf 8 (rmL 3) (some .int) "resultOf" := X
  refine r_loc (L' := [some (.ref b), some (.ref t), some (.int (nI n)), none, none, none, none, none]) rfl ?_
  have hT' := hT
  have hL' := hL
  obtain ⟨hs0, hv0, hv1, hv2, hv3, hs1, hs2, hs3, hs4⟩ := hL
  obtain ⟨ts0, tv0, tv1, tv2, tv3, tD, tG, ts8, ts9⟩ := hT
  have hk4 := hO.1
  have hk := hO.2.1
  refine r_iconst (v := 0) X dX2_resultOf_0 (by decide) ?_
  refine r_istore_n X dX2_resultOf_1 rfl (by decide) rfl ?_
  refine r_iconst (v := 0) X dX2_resultOf_2 (by decide) ?_
  refine r_istore X dX2_resultOf_3 (by decide) rfl ?_
  refine r_iconst (v := 2) X dX2_resultOf_5 (by decide) ?_
  refine r_istore X dX2_resultOf_6 (by decide) rfl ?_
  refine r_bipush (v := 60) X dX2_resultOf_8 (by decide) ?_
  refine r_istore X dX2_resultOf_10 (by decide) rfl ?_
  refine r_iconst (v := nI 0) X dX2_resultOf_12 (by decide) ?_
  refine r_istore X dX2_resultOf_13 (by decide) rfl ?_
  have H : ∀ j, j ≤ k → G E M 0 0 (qQ E M (rmL 3) (fun v w' => v = some (.int (lRes I b t n k)) ∧ w' = (S, I, V, J, N))) 15 [some (.ref b), some (.ref t), some (.int (nI n)), some (.int (lSt I b t n j)), some (.int (lDg I b t n j)), some (.int (lF1 I b j)), some (.int (lF2 I b j)), some (.int (nI j))] [] (S, I, V, J, N) := by
    refine loopN k (fun j hj ih => ?_)
    refine r_iload X dX2_resultOf_15 rfl ?_
    refine r_aload_n X dX2_resultOf_17 rfl rfl ?_
    refine r_getI X dX2_resultOf_18 fX2_24 (by assumption) (by first | assumption | rfl) ?_
    refine r_icmpN_ge (tgt := 100) X dX2_resultOf_21 (by decide) (by omega) (by omega) (fun h21 => ?_) (fun h21 => ?_)
    · skip
      refine r_aload_n X dX2_resultOf_100 rfl rfl ?_
      refine r_getR X dX2_resultOf_101 fX2_113 (by assumption) (by assumption) ?_
      refine r_iload_n X dX2_resultOf_104 rfl rfl ?_
      refine r_ialdN X dX2_resultOf_105 (by assumption) (by omega) (by omega) (by first | assumption | rfl) ?_
      refine r_aload_n X dX2_resultOf_106 rfl rfl ?_
      refine r_getI X dX2_resultOf_107 fX2_116 (by assumption) (by first | assumption | rfl) ?_
      refine r_isub X dX2_resultOf_110 ?_
      refine r_iload X dX2_resultOf_111 rfl ?_
      refine r_iload_n X dX2_resultOf_113 rfl rfl ?_
      refine r_imul X dX2_resultOf_114 ?_
      refine r_iadd X dX2_resultOf_115 ?_
      refine r_iload X dX2_resultOf_116 rfl ?_
      refine r_iload X dX2_resultOf_118 rfl ?_
      refine r_imul X dX2_resultOf_120 ?_
      refine r_iadd X dX2_resultOf_121 ?_
      refine r_ireturn X dX2_resultOf_122 rfl (by first | omega | decide) (by first | omega | decide) ?_
      obtain rfl : j = k := by omega
      exact ⟨rfl, rfl⟩
    · skip
      refine r_aload_n X dX2_resultOf_24 rfl rfl ?_
      refine r_getR X dX2_resultOf_25 fX2_9 (by assumption) (by assumption) ?_
      refine r_iload X dX2_resultOf_28 rfl ?_
      refine r_ialdN X dX2_resultOf_30 (by assumption) (by omega) (by omega) (by first | assumption | rfl) ?_
      refine r_iconst (v := 3) X dX2_resultOf_31 (by decide) ?_
      refine r_icmp_ne (tgt := 56) X dX2_resultOf_32 (by decide) (fun h32 => ?_) (fun h32 => ?_)
      · skip
        refine r_aload_n X dX2_resultOf_56 rfl rfl ?_
        refine r_getR X dX2_resultOf_57 fX2_9 (by assumption) (by assumption) ?_
        refine r_iload X dX2_resultOf_60 rfl ?_
        refine r_ialdN X dX2_resultOf_62 (by assumption) (by omega) (by omega) (by first | assumption | rfl) ?_
        refine r_iconst (v := 2) X dX2_resultOf_63 (by decide) ?_
        refine r_icmp_ne (tgt := 83) X dX2_resultOf_64 (by decide) (fun h64 => ?_) (fun h64 => ?_)
        · skip
          refine r_iload_n X dX2_resultOf_83 rfl rfl ?_
          refine r_aload_n X dX2_resultOf_84 rfl rfl ?_
          refine r_iload X dX2_resultOf_85 rfl ?_
          refine r_aload_n X dX2_resultOf_87 rfl rfl ?_
          refine r_iload_n X dX2_resultOf_88 rfl rfl ?_
          refine q_callV X dX2_resultOf_89 mX2_109 cwX2_lackOf (c_lLack GE S I V J N b t n j k hL' hT' hO (by omega) hn) rfl (by assumption) rfl rfl rfl (Nat.le_of_ble_eq_true rfl) ⟨Nat.le_of_ble_eq_true rfl, Nat.le_of_ble_eq_true rfl⟩ ⟨by first | omega | decide, by first | omega | decide⟩ ?_
          rintro _ _ ⟨rfl, rfl⟩
          refine r_iadd X dX2_resultOf_92 ?_
          refine r_istore_n X dX2_resultOf_93 rfl (by decide) rfl ?_
          first | refine r_iincN X dX2_resultOf_94 rfl (by decide) rfl ?_ | refine r_iinc X dX2_resultOf_94 rfl rfl (by decide) rfl ?_
          refine r_goto (tgt := 15) X dX2_resultOf_97 (by decide) ?_
          exact r_loc (by simp [lSt, lDg, lF1, lF2, *] <;> rfl) (ih (by omega))
        · skip
          refine r_iload X dX2_resultOf_67 rfl ?_
          refine r_aload_n X dX2_resultOf_69 rfl rfl ?_
          refine r_iload X dX2_resultOf_70 rfl ?_
          refine r_aload_n X dX2_resultOf_72 rfl rfl ?_
          refine r_iload_n X dX2_resultOf_73 rfl rfl ?_
          refine q_callV X dX2_resultOf_74 mX2_109 cwX2_lackOf (c_lLack GE S I V J N b t n j k hL' hT' hO (by omega) hn) rfl (by assumption) rfl rfl rfl (Nat.le_of_ble_eq_true rfl) ⟨Nat.le_of_ble_eq_true rfl, Nat.le_of_ble_eq_true rfl⟩ ⟨by first | omega | decide, by first | omega | decide⟩ ?_
          rintro _ _ ⟨rfl, rfl⟩
          refine r_iadd X dX2_resultOf_77 ?_
          refine r_istore X dX2_resultOf_78 (by decide) rfl ?_
          refine r_goto (tgt := 94) X dX2_resultOf_80 (by decide) ?_
          first | refine r_iincN X dX2_resultOf_94 rfl (by decide) rfl ?_ | refine r_iinc X dX2_resultOf_94 rfl rfl (by decide) rfl ?_
          refine r_goto (tgt := 15) X dX2_resultOf_97 (by decide) ?_
          exact r_loc (by simp [lSt, lDg, lF1, lF2, *] <;> rfl) (ih (by omega))
      · skip
        refine r_aload_n X dX2_resultOf_35 rfl rfl ?_
        refine r_getR X dX2_resultOf_36 fX2_15 (by assumption) (by assumption) ?_
        refine r_iload X dX2_resultOf_39 rfl ?_
        refine r_ialdN X dX2_resultOf_41 (by assumption) (by omega) (by omega) (by first | assumption | rfl) ?_
        refine r_istore X dX2_resultOf_42 (by decide) rfl ?_
        refine r_aload_n X dX2_resultOf_44 rfl rfl ?_
        refine r_getR X dX2_resultOf_45 fX2_18 (by assumption) (by assumption) ?_
        refine r_iload X dX2_resultOf_48 rfl ?_
        refine r_ialdN X dX2_resultOf_50 (by assumption) (by omega) (by omega) (by first | assumption | rfl) ?_
        refine r_istore X dX2_resultOf_51 (by decide) rfl ?_
        refine r_goto (tgt := 94) X dX2_resultOf_53 (by decide) ?_
        first | refine r_iincN X dX2_resultOf_94 rfl (by decide) rfl ?_ | refine r_iinc X dX2_resultOf_94 rfl rfl (by decide) rfl ?_
        refine r_goto (tgt := 15) X dX2_resultOf_97 (by decide) ?_
        exact r_loc (by simp [lSt, lDg, lF1, lF2, *] <;> rfl) (ih (by omega))
  exact H 0 (by omega)
/-! ===== SledHouse$SignRow ===== -/
theorem iMin_nI {a b : Nat} (ha : a < 2 ^ 31) (hb : b < 2 ^ 31) : iMin (nI a) (nI b) = nI (min a b) := by
  unfold iMin
  by_cases h : b < a
  · rw [if_pos ((nI_ltI hb ha).mpr h), Nat.min_eq_right (by omega)]
  · rw [if_neg (fun q => h ((nI_ltI hb ha).mp q)), Nat.min_eq_left (by omega)]
theorem iMax_nI {a b : Nat} (ha : a < 2 ^ 31) (hb : b < 2 ^ 31) : iMax (nI a) (nI b) = nI (max a b) := by
  unfold iMax
  by_cases h : a < b
  · rw [if_pos ((nI_ltI ha hb).mpr h), Nat.max_eq_right (by omega)]
  · rw [if_neg (fun q => h ((nI_ltI ha hb).mp q)), Nat.max_eq_left (by omega)]
theorem share_nI {a b : Nat} (ha : a < 2 ^ 31) (hb : 0 < b) (hb2 : b < 2 ^ 31) : share (nI a) (nI b) = nI (a / b) := by
  unfold share
  rw [if_pos (show (0 : Int32) < nI b from (nI_ltI (a := 0) (by decide) hb2).mpr hb)]
  exact pk_div ha hb hb2
theorem add_m1 (x : Int32) : x + Int32.ofInt (-1) = x - 1 := by rw [Int32.sub_eq_add_neg]; rfl
def RowSh (S : Nat → Option (Nat × Nat)) (V : Nat → Nat → Option Nat) (g a n : Nat) : Prop := S g = some (5, 0) ∧ V g 0 = some a ∧ S a = some (100, n) ∧ n ≤ 2000
def rowPast (n e s : Nat) : Nat := min n ((s + e - 1) / e)
set_option maxHeartbeats 2000000 in
set_option maxRecDepth 20000 in
/-- SledHouse$SignRow.past -/
theorem c_rowPast {E : Ev} (GE : Glob E) (S : Nat → Option (Nat × Nat)) (I : Nat → Nat → Int32) (V : Nat → Nat → Option Nat) (J : Nat → Nat → Int64) (N : Nat) (g a n e s : Nat) (hR : RowSh S V g a n) (he : 0 < e) (he48 : e ≤ 48) (hs : s ≤ 3000) : Ct E yX6_past cX6_past 3 (some .int) (rmL 1) [.ref g, .int (nI e), .int (nI s)] (S, I, V, J, N) (fun v w' => v = some (.int (nI (rowPast n e s))) ∧ w' = (S, I, V, J, N)) := by
  refine Ct.start GE (by decide) rfl (Nat.le_of_ble_eq_true rfl) (fun M X => ?_)
  have X : Cx E M RX6 cX6_past 3 (rmL 1) (some .int) "past" := X
  refine r_loc (L' := [some (.ref g), some (.int (nI e)), some (.int (nI s))]) rfl ?_
  obtain ⟨hs0, hv0, hsa, hn⟩ := hR
  have hd : (s + e - 1) / e ≤ s + e - 1 := Nat.div_le_self _ _
  refine r_aload_n X dX6_past_0 rfl rfl ?_
  refine r_getR X dX6_past_1 fX6_9 (by assumption) (by assumption) ?_
  refine r_alen X dX6_past_4 (by assumption) (by decide) rfl ?_
  refine r_iload_n X dX6_past_5 rfl rfl ?_
  refine r_iload_n X dX6_past_6 rfl rfl ?_
  refine r_iadd X dX6_past_7 ?_
  refine r_topi (nI (s + e)) (nI_add s e) ?_
  refine r_iconst (v := 1) X dX6_past_8 (by decide) ?_
  refine r_isub X dX6_past_9 ?_
  refine r_topi (nI (s + e - 1)) (pk_sub (a := s + e) (b := 1) (by omega)) ?_
  refine r_iload_n X dX6_past_10 rfl rfl ?_
  refine q_callS X dX6_past_11 mX6_41 cwX10_share (c_share GE _ _ _) rfl rfl (Nat.le_of_ble_eq_true rfl) ⟨Nat.le_of_ble_eq_true rfl, Nat.le_of_ble_eq_true rfl⟩ ⟨by first | omega | decide, by first | omega | decide⟩ ?_
  rintro _ _ ⟨rfl, rfl⟩
  refine r_topi (nI ((s + e - 1) / e)) (share_nI (by omega) he (by omega)) ?_
  refine r_mmin X dX6_past_14 mmX6_45 (Nat.le_of_ble_eq_true rfl) (Nat.le_of_ble_eq_true rfl) (by first | omega | decide) (by first | omega | decide) ?_
  refine r_topi (nI (rowPast n e s)) (iMin_nI (by omega) (by omega)) ?_
  refine r_ireturn X dX6_past_17 rfl (by first | omega | decide) (by first | omega | decide) ?_
  exact ⟨rfl, rfl⟩
/-- how many signs stand at the places below j -/
def rowCt (I : Mem) (a : Nat) : Nat → Nat
  | 0 => 0
  | j + 1 => if I a j = -1 then rowCt I a j else rowCt I a j + 1
theorem rowCt_le (I : Mem) (a : Nat) : ∀ j, rowCt I a j ≤ j
  | 0 => by simp [rowCt]
  | j + 1 => by have := rowCt_le I a j; unfold rowCt; split <;> omega
set_option maxHeartbeats 2000000 in
set_option maxRecDepth 20000 in
/-- SledHouse$SignRow.howMany -/
theorem c_rowMany {E : Ev} (GE : Glob E) (S : Nat → Option (Nat × Nat)) (I : Nat → Nat → Int32) (V : Nat → Nat → Option Nat) (J : Nat → Nat → Int64) (N : Nat) (g a n e s : Nat) (hR : RowSh S V g a n) (he : 0 < e) (he48 : e ≤ 48) (hs : s ≤ 3000) : Ct E yX6_howMany cX6_howMany 6 (some .int) (rmL 2) [.ref g, .int (nI e), .int (nI s)] (S, I, V, J, N) (fun v w' => v = some (.int (nI (rowCt I a (rowPast n e s)))) ∧ w' = (S, I, V, J, N)) := by
  refine Ct.start GE (by decide) rfl (Nat.le_of_ble_eq_true rfl) (fun M X => ?_)
  have X : Cx E M RX6 cX6_howMany 6 (rmL 2) (some .int) "howMany" := X
  refine r_loc (L' := [some (.ref g), some (.int (nI e)), some (.int (nI s)), none, none, none]) rfl ?_
  have hR' := hR
  obtain ⟨hs0, hv0, hsa, hn⟩ := hR
  have hpn : rowPast n e s ≤ n := Nat.min_le_left _ _
  refine r_iconst (v := nI 0) X dX6_howMany_0 (by decide) ?_
  refine r_istore_n X dX6_howMany_1 rfl (by decide) rfl ?_
  refine r_aload_n X dX6_howMany_2 rfl rfl ?_
  refine r_iload_n X dX6_howMany_3 rfl rfl ?_
  refine r_iload_n X dX6_howMany_4 rfl rfl ?_
  refine q_callV X dX6_howMany_5 mX6_50 cwX6_past (c_rowPast GE S I V J N g a n e s hR' he he48 hs) rfl (by assumption) rfl rfl rfl (Nat.le_of_ble_eq_true rfl) ⟨Nat.le_of_ble_eq_true rfl, Nat.le_of_ble_eq_true rfl⟩ ⟨by first | omega | decide, by first | omega | decide⟩ ?_
  rintro _ _ ⟨rfl, rfl⟩
  refine r_istore X dX6_howMany_8 (by decide) rfl ?_
  refine r_iconst (v := nI 0) X dX6_howMany_10 (by decide) ?_
  refine r_istore X dX6_howMany_11 (by decide) rfl ?_
  have H : ∀ j, j ≤ (rowPast n e s) → G E M 0 0 (qQ E M (rmL 2) (fun v w' => v = some (.int (nI (rowCt I a (rowPast n e s)))) ∧ w' = (S, I, V, J, N))) 13 [some (.ref g), some (.int (nI e)), some (.int (nI s)), some (.int (nI (rowCt I a j))), some (.int (nI (rowPast n e s))), some (.int (nI j))] [] (S, I, V, J, N) := by
    refine loopN (rowPast n e s) (fun j hj ih => ?_)
    refine r_iload X dX6_howMany_13 rfl ?_
    refine r_iload X dX6_howMany_15 rfl ?_
    refine r_icmpN_ge (tgt := 40) X dX6_howMany_17 (by decide) (by omega) (by omega) (fun h17 => ?_) (fun h17 => ?_)
    · skip
      refine r_iload_n X dX6_howMany_40 rfl rfl ?_
      refine r_ireturn X dX6_howMany_41 rfl (by first | omega | decide) (by first | omega | decide) ?_
      obtain rfl : j = rowPast n e s := by omega
      exact ⟨rfl, rfl⟩
    · skip
      refine r_aload_n X dX6_howMany_20 rfl rfl ?_
      refine r_getR X dX6_howMany_21 fX6_9 (by assumption) (by assumption) ?_
      refine r_iload X dX6_howMany_24 rfl ?_
      refine r_ialdN X dX6_howMany_26 (by assumption) (by omega) (by omega) (by first | assumption | rfl) ?_
      refine r_iconst (v := -1) X dX6_howMany_27 (by decide) ?_
      refine r_icmp_eq (tgt := 34) X dX6_howMany_28 (by decide) (fun h28 => ?_) (fun h28 => ?_)
      · skip
        first | refine r_iincN X dX6_howMany_34 rfl (by decide) rfl ?_ | refine r_iinc X dX6_howMany_34 rfl rfl (by decide) rfl ?_
        refine r_goto (tgt := 13) X dX6_howMany_37 (by decide) ?_
        exact r_loc (by simp [rowCt, *]) (ih (by omega))
      · skip
        first | refine r_iincN X dX6_howMany_31 rfl (by decide) rfl ?_ | refine r_iinc X dX6_howMany_31 rfl rfl (by decide) rfl ?_
        first | refine r_iincN X dX6_howMany_34 rfl (by decide) rfl ?_ | refine r_iinc X dX6_howMany_34 rfl rfl (by decide) rfl ?_
        refine r_goto (tgt := 13) X dX6_howMany_37 (by decide) ?_
        exact r_loc (by simp [rowCt, *]) (ih (by omega))
  exact H 0 (by omega)
/-- the last sign below j -/
def rowLast (I : Mem) (a : Nat) : Nat → Option Nat
  | 0 => none
  | j + 1 => if I a j = -1 then rowLast I a j else some j
set_option maxHeartbeats 2000000 in
set_option maxRecDepth 20000 in
/-- SledHouse$SignRow.latest -/
theorem c_rowLatest {E : Ev} (GE : Glob E) (S : Nat → Option (Nat × Nat)) (I : Nat → Nat → Int32) (V : Nat → Nat → Option Nat) (J : Nat → Nat → Int64) (N : Nat) (g a n e s : Nat) (hR : RowSh S V g a n) (he : 0 < e) (he48 : e ≤ 48) (hs : s < 3000) : Ct E yX6_latest cX6_latest 4 (some .int) (rmL 2) [.ref g, .int (nI e), .int (nI s)] (S, I, V, J, N) (fun v w' => v = some (.int (oI (rowLast I a (rowPast n e (s + 1))))) ∧ w' = (S, I, V, J, N)) := by
  refine Ct.start GE (by decide) rfl (Nat.le_of_ble_eq_true rfl) (fun M X => ?_)
  have X : Cx E M RX6 cX6_latest 4 (rmL 2) (some .int) "latest" := X
  refine r_loc (L' := [some (.ref g), some (.int (nI e)), some (.int (nI s)), none]) rfl ?_
  have hR' := hR
  obtain ⟨hs0, hv0, hsa, hn⟩ := hR
  have hpn : rowPast n e (s + 1) ≤ n := Nat.min_le_left _ _
  have H : ∀ c, c ≤ n → ∀ x : Int32, x = nI c - 1 → rowLast I a c = rowLast I a (rowPast n e (s + 1)) → G E M 0 0 (qQ E M (rmL 2) (fun v w' => v = some (.int (oI (rowLast I a (rowPast n e (s + 1))))) ∧ w' = (S, I, V, J, N))) 11 [some (.ref g), some (.int (nI e)), some (.int (nI s)), some (.int x)] [] (S, I, V, J, N) := by
    intro c
    induction c with
    | zero =>
      intro hc x hx he0
      obtain rfl : x = -1 := hx
      refine r_iload_n X dX6_latest_11 rfl rfl ?_
      refine r_if_lt (tgt := 33) X dX6_latest_12 (by decide) (fun h12 => ?_) (fun h12 => ?_)
      · skip
        refine r_iconst (v := -1) X dX6_latest_33 (by decide) ?_
        refine r_ireturn X dX6_latest_34 rfl (by first | omega | decide) (by first | omega | decide) ?_
        exact ⟨by rw [← he0]; rfl, rfl⟩
      · skip
        exact absurd (by decide) h12
    | succ c ih =>
      intro hc x hx he0
      obtain rfl : x = nI c := hx.trans (nI_pred c)
      refine r_iload_n X dX6_latest_11 rfl rfl ?_
      refine r_if_lt (tgt := 33) X dX6_latest_12 (by decide) (fun h12 => ?_) (fun h12 => ?_)
      · skip
        exact absurd h12 (nI_pos (by omega))
      · skip
        refine r_aload_n X dX6_latest_15 rfl rfl ?_
        refine r_getR X dX6_latest_16 fX6_9 (by assumption) (by assumption) ?_
        refine r_iload_n X dX6_latest_19 rfl rfl ?_
        refine r_ialdN X dX6_latest_20 (by assumption) (by omega) (by omega) (by first | assumption | rfl) ?_
        refine r_iconst (v := -1) X dX6_latest_21 (by decide) ?_
        refine r_icmp_eq (tgt := 27) X dX6_latest_22 (by decide) (fun h22 => ?_) (fun h22 => ?_)
        · skip
          refine r_iinc X dX6_latest_27 rfl rfl (by decide) rfl ?_
          refine r_goto (tgt := 11) X dX6_latest_30 (by decide) ?_
          exact ih (by omega) _ (add_m1 _) (by rw [← he0, rowLast, if_pos h22])
        · skip
          refine r_iload_n X dX6_latest_25 rfl rfl ?_
          refine r_ireturn X dX6_latest_26 rfl (by first | omega | decide) (by first | omega | decide) ?_
          exact ⟨by rw [← he0, rowLast, if_neg h22]; rfl, rfl⟩
  refine r_aload_n X dX6_latest_0 rfl rfl ?_
  refine r_iload_n X dX6_latest_1 rfl rfl ?_
  refine r_iload_n X dX6_latest_2 rfl rfl ?_
  refine r_iconst (v := 1) X dX6_latest_3 (by decide) ?_
  refine r_iadd X dX6_latest_4 ?_
  refine r_topi (nI (s + 1)) (nI_1 s) ?_
  refine q_callV X dX6_latest_5 mX6_50 cwX6_past (c_rowPast GE S I V J N g a n e (s + 1) hR' he he48 (by omega)) rfl (by assumption) rfl rfl rfl (Nat.le_of_ble_eq_true rfl) ⟨Nat.le_of_ble_eq_true rfl, Nat.le_of_ble_eq_true rfl⟩ ⟨by first | omega | decide, by first | omega | decide⟩ ?_
  rintro _ _ ⟨rfl, rfl⟩
  refine r_iconst (v := 1) X dX6_latest_8 (by decide) ?_
  refine r_isub X dX6_latest_9 ?_
  refine r_istore_n X dX6_latest_10 rfl (by decide) rfl ?_
  exact H (rowPast n e (s + 1)) hpn _ rfl rfl
def rowNext (I : Mem) (a x y : Nat) : Option Nat := (fst1 (fun k => decide (¬ I a (x + k) = -1)) (y - x)).map (x + ·)
set_option maxHeartbeats 2000000 in
set_option maxRecDepth 20000 in
/-- SledHouse$SignRow.next -/
theorem c_rowNext {E : Ev} (GE : Glob E) (S : Nat → Option (Nat × Nat)) (I : Nat → Nat → Int32) (V : Nat → Nat → Option Nat) (J : Nat → Nat → Int64) (N : Nat) (g a n e s u : Nat) (hR : RowSh S V g a n) (he : 0 < e) (he48 : e ≤ 48) (hs : s ≤ 3000) (hu : u ≤ 3000) : Ct E yX6_next cX6_next 6 (some .int) (rmL 2) [.ref g, .int (nI e), .int (nI s), .int (nI u)] (S, I, V, J, N) (fun v w' => v = some (.int (oI (rowNext I a (s / e + 1) (rowPast n e u)))) ∧ w' = (S, I, V, J, N)) := by
  refine Ct.start GE (by decide) rfl (Nat.le_of_ble_eq_true rfl) (fun M X => ?_)
  have X : Cx E M RX6 cX6_next 6 (rmL 2) (some .int) "next" := X
  refine r_loc (L' := [some (.ref g), some (.int (nI e)), some (.int (nI s)), some (.int (nI u)), none, none]) rfl ?_
  have hR' := hR
  obtain ⟨hs0, hv0, hsa, hn⟩ := hR
  have hpn : rowPast n e u ≤ n := Nat.min_le_left _ _
  have hse : s / e ≤ s := Nat.div_le_self _ _
  refine r_aload_n X dX6_next_0 rfl rfl ?_
  refine r_iload_n X dX6_next_1 rfl rfl ?_
  refine r_iload_n X dX6_next_2 rfl rfl ?_
  refine q_callV X dX6_next_3 mX6_50 cwX6_past (c_rowPast GE S I V J N g a n e u hR' he he48 hu) rfl (by assumption) rfl rfl rfl (Nat.le_of_ble_eq_true rfl) ⟨Nat.le_of_ble_eq_true rfl, Nat.le_of_ble_eq_true rfl⟩ ⟨by first | omega | decide, by first | omega | decide⟩ ?_
  rintro _ _ ⟨rfl, rfl⟩
  refine r_istore X dX6_next_6 (by decide) rfl ?_
  refine r_iload_n X dX6_next_8 rfl rfl ?_
  refine r_iload_n X dX6_next_9 rfl rfl ?_
  refine q_callS X dX6_next_10 mX6_41 cwX10_share (c_share GE _ _ _) rfl rfl (Nat.le_of_ble_eq_true rfl) ⟨Nat.le_of_ble_eq_true rfl, Nat.le_of_ble_eq_true rfl⟩ ⟨by first | omega | decide, by first | omega | decide⟩ ?_
  rintro _ _ ⟨rfl, rfl⟩
  refine r_topi (nI (s / e)) (share_nI (by omega) he (by omega)) ?_
  refine r_iconst (v := 1) X dX6_next_13 (by decide) ?_
  refine r_iadd X dX6_next_14 ?_
  refine r_topi (nI (s / e + 1)) (nI_1 _) ?_
  refine r_istore X dX6_next_15 (by decide) rfl ?_
  have H : ∀ j, j ≤ (rowPast n e u - (s / e + 1)) → (∀ q, q < j → (decide (¬ I a (s / e + 1 + q) = -1)) = false) → G E M 0 0 (qQ E M (rmL 2) (fun v w' => v = some (.int (oI (rowNext I a (s / e + 1) (rowPast n e u)))) ∧ w' = (S, I, V, J, N))) 17 [some (.ref g), some (.int (nI e)), some (.int (nI s)), some (.int (nI u)), some (.int (nI (rowPast n e u))), some (.int (nI (s / e + 1 + j)))] [] (S, I, V, J, N) := by
    refine loopN (rowPast n e u - (s / e + 1)) (fun j hj ih => ?_)
    intro hno
    refine r_iload X dX6_next_17 rfl ?_
    refine r_iload X dX6_next_19 rfl ?_
    refine r_icmpN_ge (tgt := 44) X dX6_next_21 (by decide) (by omega) (by omega) (fun h21 => ?_) (fun h21 => ?_)
    · skip
      refine r_iconst (v := -1) X dX6_next_44 (by decide) ?_
      refine r_ireturn X dX6_next_45 rfl (by first | omega | decide) (by first | omega | decide) ?_
      obtain rfl : j = rowPast n e u - (s / e + 1) := by omega
      exact ⟨by rw [rowNext, fst1_none hno]; rfl, rfl⟩
    · skip
      refine r_aload_n X dX6_next_24 rfl rfl ?_
      refine r_getR X dX6_next_25 fX6_9 (by assumption) (by assumption) ?_
      refine r_iload X dX6_next_28 rfl ?_
      refine r_ialdN X dX6_next_30 (by assumption) (by omega) (by omega) (by first | assumption | rfl) ?_
      refine r_iconst (v := -1) X dX6_next_31 (by decide) ?_
      refine r_icmp_eq (tgt := 38) X dX6_next_32 (by decide) (fun h32 => ?_) (fun h32 => ?_)
      · skip
        first | refine r_iincN X dX6_next_38 rfl (by decide) rfl ?_ | refine r_iinc X dX6_next_38 rfl rfl (by decide) rfl ?_
        refine r_goto (tgt := 17) X dX6_next_41 (by decide) ?_
        refine ih (by omega) (fun q hq => ?_)
        rcases Nat.lt_or_ge q j with z | z
        · exact hno q z
        · obtain rfl : q = j := by omega
          simp [h32]
      · skip
        refine r_iload X dX6_next_35 rfl ?_
        refine r_ireturn X dX6_next_37 rfl (by first | omega | decide) (by first | omega | decide) ?_
        exact ⟨by rw [rowNext, fst1_some (j := j) (by simp [h32]) hno (by omega)]; rfl, rfl⟩
  exact H 0 (by omega) (fun i hi => absurd hi (by omega))
