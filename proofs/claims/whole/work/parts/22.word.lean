/-! ===== Tape: words, semicolon ===== -/
/-- the tape a is being read: e bytes, the token from q up to nx -/
def TokSt (I : Mem) (a e q nx : Nat) : Prop := I a 2 = nI e ∧ e ≤ 400 ∧ I a 3 = nI nx ∧ I a 5 = nI q ∧ q ≤ nx ∧ nx ≤ e
def tkWord (B : Nat → Int32) (kd : Int32) (q nx : Nat) (bs : List Int32) : Bool := decide (kd = 1) && (decide (nx - q = bs.length) && (List.range bs.length).all fun i => decide (B (q + i) = bs.getD i 0 &&& 255))
theorem tkWord_yes {B : Nat → Int32} {kd : Int32} {q nx : Nat} {bs : List Int32} (h1 : kd = 1) (h2 : nx - q = bs.length) (h : ∀ i, i < bs.length → B (q + i) = bs.getD i 0 &&& 255) : tkWord B kd q nx bs = true := by
  unfold tkWord
  simp only [h1, h2, decide_true, Bool.true_and]
  rw [List.all_eq_true]
  intro i hi
  simpa using h i (List.mem_range.mp hi)
theorem tkWord_no {B : Nat → Int32} {kd : Int32} {q nx : Nat} {bs : List Int32} (i : Nat) (hi : i < bs.length) (h : ¬ B (q + i) = bs.getD i 0 &&& 255) : tkWord B kd q nx bs = false := by
  unfold tkWord
  rw [Bool.and_eq_false_iff]
  right
  rw [Bool.and_eq_false_iff]
  right
  rw [List.all_eq_false]
  exact ⟨i, List.mem_range.mpr hi, by simpa using h⟩
set_option maxHeartbeats 2000000 in
set_option maxRecDepth 20000 in
/-- SledHouse$Tape.isWord -/
theorem c_isWord {E : Ev} (GE : Glob E) (S : Nat → Option (Nat × Nat)) (I : Nat → Nat → Int32) (V : Nat → Nat → Option Nat) (J : Nat → Nat → Int64) (N : Nat) (a e q nx u : Nat) (bs : List Int32) (hZ : Stat E) (hT : TapeSh S V a) (hK : TokSt I a e q nx) (hu : StrAt E u bs) : Ct E yX7_isWord cX7_isWord 3 (some .boolean) (rmL 4) [.ref a, .ref u] (S, I, V, J, N) (fun v w' => v = some (.int (bI (tkWord (I (a + 1)) (I a 4) q nx bs))) ∧ w' = (S, I, V, J, N)) := by
  refine Ct.start GE (by decide) rfl (Nat.le_of_ble_eq_true rfl) (fun M X => ?_)
  have X : Cx E M RX7 cX7_isWord 3 (rmL 4) (some .boolean) "isWord" := X
  refine r_loc (L' := [some (.ref a), some (.ref u), none]) rfl ?_
  obtain ⟨hs0, hv0, hs1⟩ := hT
  obtain ⟨he, he4, hnx, hq, hqn, hne⟩ := hK
  have hlen : bs.length < 1000 := hu.2.2.1
  refine r_aload_n X dX7_isWord_0 rfl rfl ?_
  refine r_getI X dX7_isWord_1 fX7_25 (by assumption) (by first | assumption | rfl) ?_
  refine r_iconst (v := 1) X dX7_isWord_4 (by decide) ?_
  refine r_icmp_ne (tgt := 24) X dX7_isWord_5 (by decide) (fun h5 => ?_) (fun h5 => ?_)
  · skip
    refine r_iconst (v := 0) X dX7_isWord_24 (by decide) ?_
    refine r_ireturn X dX7_isWord_25 rfl (by first | omega | decide | (simp only [rmL, rmA]; omega)) (by first | omega | decide | (simp only [rmL, rmA]; omega)) ?_
    refine ⟨?_, rfl⟩
    have : tkWord (I (a + 1)) (I a 4) q nx bs = false := by
      unfold tkWord
      simp [*]
    rw [this]
    rfl
  · skip
    refine r_aload_n X dX7_isWord_8 rfl rfl ?_
    refine r_getI X dX7_isWord_9 fX7_22 (by assumption) (by first | assumption | rfl) ?_
    refine r_aload_n X dX7_isWord_12 rfl rfl ?_
    refine r_getI X dX7_isWord_13 fX7_28 (by assumption) (by first | assumption | rfl) ?_
    refine r_isub X dX7_isWord_16 ?_
    refine r_topi (nI (nx - q)) (pk_sub (by omega)) ?_
    refine r_aload_n X dX7_isWord_17 rfl rfl ?_
    refine q_callO X dX7_isWord_18 mX7_53 cwJ0_length_8abf5 (c_sLen GE u bs _ hZ hu) rfl hu.1 rfl (Nat.le_of_ble_eq_true rfl) ⟨Nat.le_of_ble_eq_true rfl, Nat.le_of_ble_eq_true rfl⟩ ⟨Nat.le_of_ble_eq_true rfl, Nat.le_of_ble_eq_true rfl⟩ ?_
    rintro _ _ ⟨rfl, rfl⟩
    refine r_icmpN_eq (tgt := 26) X dX7_isWord_21 (by decide) (by omega) (by omega) (fun h21 => ?_) (fun h21 => ?_)
    · skip
      refine r_iconst (v := nI 0) X dX7_isWord_26 (by decide) ?_
      refine r_istore_n X dX7_isWord_27 rfl (by decide) rfl ?_
      have H : ∀ j, j ≤ bs.length → (∀ i, i < j → I (a + 1) (q + i) = bs.getD i 0 &&& 255) → G E M 0 0 (qQ E M (rmL 4) (fun v w' => v = some (.int (bI (tkWord (I (a + 1)) (I a 4) q nx bs))) ∧ w' = (S, I, V, J, N))) 28 [some (.ref a), some (.ref u), some (.int (nI j))] [] (S, I, V, J, N) := by
        refine loopN bs.length (fun j hj ih => ?_)
        intro hyes
        refine r_iload_n X dX7_isWord_28 rfl rfl ?_
        refine r_aload_n X dX7_isWord_29 rfl rfl ?_
        refine q_callO X dX7_isWord_30 mX7_53 cwJ0_length_8abf5 (c_sLen GE u bs _ hZ hu) rfl hu.1 rfl (Nat.le_of_ble_eq_true rfl) ⟨Nat.le_of_ble_eq_true rfl, Nat.le_of_ble_eq_true rfl⟩ ⟨Nat.le_of_ble_eq_true rfl, Nat.le_of_ble_eq_true rfl⟩ ?_
        rintro _ _ ⟨rfl, rfl⟩
        refine r_icmpN_ge (tgt := 76) X dX7_isWord_33 (by decide) (by omega) (by omega) (fun h33 => ?_) (fun h33 => ?_)
        · skip
          refine r_iconst (v := 1) X dX7_isWord_76 (by decide) ?_
          refine r_ireturn X dX7_isWord_77 rfl (by first | omega | decide | (simp only [rmL, rmA]; omega)) (by first | omega | decide | (simp only [rmL, rmA]; omega)) ?_
          obtain rfl : j = bs.length := by omega
          exact ⟨by rw [tkWord_yes (by assumption) h21 hyes]; rfl, rfl⟩
        · skip
          refine r_aload_n X dX7_isWord_36 rfl rfl ?_
          refine r_getI X dX7_isWord_37 fX7_28 (by assumption) (by first | assumption | rfl) ?_
          refine r_iload_n X dX7_isWord_40 rfl rfl ?_
          refine r_iadd X dX7_isWord_41 ?_
          refine r_topi (nI (q + j)) (nI_add _ _) ?_
          refine r_aload_n X dX7_isWord_42 rfl rfl ?_
          refine r_getI X dX7_isWord_43 fX7_19 (by assumption) (by first | assumption | rfl) ?_
          refine r_icmpN_ge (tgt := 76) X dX7_isWord_46 (by decide) (by omega) (by omega) (fun h46 => ?_) (fun h46 => ?_)
          · skip
            omega
          · skip
            refine r_aload_n X dX7_isWord_49 rfl rfl ?_
            refine r_getR X dX7_isWord_50 fX7_9 (by assumption) (by assumption) ?_
            refine r_aload_n X dX7_isWord_53 rfl rfl ?_
            refine r_getI X dX7_isWord_54 fX7_28 (by assumption) (by first | assumption | rfl) ?_
            refine r_iload_n X dX7_isWord_57 rfl rfl ?_
            refine r_iadd X dX7_isWord_58 ?_
            refine r_topi (nI (q + j)) (nI_add _ _) ?_
            refine r_baldN X dX7_isWord_59 (by assumption) (by omega) (by omega) (by first | assumption | rfl) ?_
            refine r_aload_n X dX7_isWord_60 rfl rfl ?_
            refine r_iload_n X dX7_isWord_61 rfl rfl ?_
            refine q_callO X dX7_isWord_62 mX7_59 cwJ0_charAt_5068e (c_charAt GE u j bs _ hZ hu (by omega)) rfl hu.1 rfl (Nat.le_of_ble_eq_true rfl) ⟨Nat.le_of_ble_eq_true rfl, Nat.le_of_ble_eq_true rfl⟩ ⟨Nat.le_of_ble_eq_true rfl, Nat.le_of_ble_eq_true rfl⟩ ?_
            rintro _ _ ⟨rfl, rfl⟩
            refine r_icmp_eq (tgt := 70) X dX7_isWord_65 (by decide) (fun h65 => ?_) (fun h65 => ?_)
            · skip
              first | refine r_iincN X dX7_isWord_70 rfl (by decide) rfl ?_ | refine r_iinc X dX7_isWord_70 rfl rfl (by decide) rfl ?_
              refine r_goto (tgt := 28) X dX7_isWord_73 (by decide) ?_
              refine ih (by omega) (fun i hi => ?_)
              rcases Nat.lt_or_ge i j with z | z
              · exact hyes i z
              · obtain rfl : i = j := by omega
                exact h65
            · skip
              refine r_iconst (v := 0) X dX7_isWord_68 (by decide) ?_
              refine r_ireturn X dX7_isWord_69 rfl (by first | omega | decide | (simp only [rmL, rmA]; omega)) (by first | omega | decide | (simp only [rmL, rmA]; omega)) ?_
              exact ⟨by rw [tkWord_no j (by omega) h65]; rfl, rfl⟩
      exact H 0 (by omega) (fun i hi => absurd hi (by omega))
    · skip
      refine r_iconst (v := 0) X dX7_isWord_24 (by decide) ?_
      refine r_ireturn X dX7_isWord_25 rfl (by first | omega | decide | (simp only [rmL, rmA]; omega)) (by first | omega | decide | (simp only [rmL, rmA]; omega)) ?_
      refine ⟨?_, rfl⟩
      have : tkWord (I (a + 1)) (I a 4) q nx bs = false := by
        unfold tkWord
        simp [*]
      rw [this]
      rfl
theorem tAdv_st {I : Mem} {a e q nx : Nat} (h : TokSt I a e q nx) : TokSt (tAdv I a e nx) a e (tkAt (I (a + 1)) e nx) (tkNx (I (a + 1)) e nx) := by
  obtain ⟨he, he4, hnx, hq, hqn, hne⟩ := h
  exact ⟨(setTok_g (by omega)).trans he, he4, setTok_g3 _ _ _ _ _ _, setTok_g5 _ _ _ _ _ _, tkNx_ge _ _ _, tkNx_le _ hne⟩
theorem tAdv_row {I : Mem} {a e p b : Nat} (h : b ≠ a) : tAdv I a e p b = I b := setTok_row h
theorem tAdv_4 (I : Mem) (a e p : Nat) : tAdv I a e p a 4 = tkKd (I (a + 1)) e p := setTok_g4 _ _ _ _ _ _
theorem tAdv_6 (I : Mem) (a e p : Nat) : tAdv I a e p a 6 = tkVl (I (a + 1)) e p := setTok_g6 _ _ _ _ _ _
def tSemi (I : Mem) (a e nx : Nat) : Mem := if I a 4 = 5 then tAdv I a e nx else tFail I a 1
set_option maxHeartbeats 2000000 in
set_option maxRecDepth 20000 in
/-- SledHouse$Tape.takeSemicolon -/
theorem c_tSemi {E : Ev} (GE : Glob E) (S : Nat → Option (Nat × Nat)) (I : Nat → Nat → Int32) (V : Nat → Nat → Option Nat) (J : Nat → Nat → Int64) (N : Nat) (a e q nx : Nat) (hT : TapeSh S V a) (hK : TokSt I a e q nx) : Ct E yX7_takeSemicolon cX7_takeSemicolon 1 (some .boolean) (rmL 2) [.ref a] (S, I, V, J, N) (fun v w' => v = some (.int (bI (decide (I a 4 = 5)))) ∧ w' = (S, tSemi I a e nx, V, J, N)) := by
  refine Ct.start GE (by decide) rfl (Nat.le_of_ble_eq_true rfl) (fun M X => ?_)
  have X : Cx E M RX7 cX7_takeSemicolon 1 (rmL 2) (some .boolean) "takeSemicolon" := X
  refine r_loc (L' := [some (.ref a)]) rfl ?_
  have hs0 := hT.1
  refine r_aload_n X dX7_takeSemicolon_0 rfl rfl ?_
  refine r_getI X dX7_takeSemicolon_1 fX7_25 (by assumption) (by first | assumption | rfl) ?_
  refine r_iconst (v := 5) X dX7_takeSemicolon_4 (by decide) ?_
  refine r_icmp_eq (tgt := 14) X dX7_takeSemicolon_5 (by decide) (fun h5 => ?_) (fun h5 => ?_)
  · skip
    refine r_aload_n X dX7_takeSemicolon_14 rfl rfl ?_
    refine q_callV X dX7_takeSemicolon_15 mX7_46 cwX7_advance (c_adv GE S I V J N a e nx hT hK.1 hK.2.1 hK.2.2.1 hK.2.2.2.2.2) rfl (by assumption) rfl rfl rfl (Nat.le_of_ble_eq_true rfl) ⟨Nat.le_of_ble_eq_true rfl, Nat.le_of_ble_eq_true rfl⟩ ⟨(by first | omega | decide | (simp only [rmL, rmA]; omega)), (by first | omega | decide | (simp only [rmL, rmA]; omega))⟩ ?_
    rintro _ _ ⟨rfl, rfl⟩
    refine r_iconst (v := 1) X dX7_takeSemicolon_18 (by decide) ?_
    refine r_ireturn X dX7_takeSemicolon_19 rfl (by first | omega | decide | (simp only [rmL, rmA]; omega)) (by first | omega | decide | (simp only [rmL, rmA]; omega)) ?_
    exact ⟨by simp [*] <;> rfl, by simp [tSemi, *]⟩
  · skip
    refine r_aload_n X dX7_takeSemicolon_8 rfl rfl ?_
    refine r_iconst (v := 1) X dX7_takeSemicolon_9 (by decide) ?_
    refine q_callV X dX7_takeSemicolon_10 mX7_63 cwX7_fail (c_tFail GE S I V J N a _ hT) rfl (by assumption) rfl rfl rfl (Nat.le_of_ble_eq_true rfl) ⟨Nat.le_of_ble_eq_true rfl, Nat.le_of_ble_eq_true rfl⟩ ⟨(by first | omega | decide | (simp only [rmL, rmA]; omega)), (by first | omega | decide | (simp only [rmL, rmA]; omega))⟩ ?_
    rintro _ _ ⟨rfl, rfl⟩
    refine r_ireturn X dX7_takeSemicolon_13 rfl (by first | omega | decide | (simp only [rmL, rmA]; omega)) (by first | omega | decide | (simp only [rmL, rmA]; omega)) ?_
    exact ⟨by simp [*] <;> rfl, by simp [tSemi, *]⟩
def tThis (I : Mem) (a e q nx : Nat) (bs : List Int32) : Mem := if tkWord (I (a + 1)) (I a 4) q nx bs = true then tAdv I a e nx else tFail I a 1
set_option maxHeartbeats 2000000 in
set_option maxRecDepth 20000 in
/-- SledHouse$Tape.takeThis -/
theorem c_tThis {E : Ev} (GE : Glob E) (S : Nat → Option (Nat × Nat)) (I : Nat → Nat → Int32) (V : Nat → Nat → Option Nat) (J : Nat → Nat → Int64) (N : Nat) (a e q nx u : Nat) (bs : List Int32) (hZ : Stat E) (hT : TapeSh S V a) (hK : TokSt I a e q nx) (hu : StrAt E u bs) : Ct E yX7_takeThis cX7_takeThis 2 (some .boolean) (rmL 5) [.ref a, .ref u] (S, I, V, J, N) (fun v w' => v = some (.int (bI (tkWord (I (a + 1)) (I a 4) q nx bs))) ∧ w' = (S, tThis I a e q nx bs, V, J, N)) := by
  refine Ct.start GE (by decide) rfl (Nat.le_of_ble_eq_true rfl) (fun M X => ?_)
  have X : Cx E M RX7 cX7_takeThis 2 (rmL 5) (some .boolean) "takeThis" := X
  refine r_loc (L' := [some (.ref a), some (.ref u)]) rfl ?_
  have hs0 := hT.1
  refine r_aload_n X dX7_takeThis_0 rfl rfl ?_
  refine r_aload_n X dX7_takeThis_1 rfl rfl ?_
  refine q_callV X dX7_takeThis_2 mX7_67 cwX7_isWord (c_isWord GE S I V J N a e q nx u bs hZ hT hK hu) rfl (by assumption) rfl rfl rfl (Nat.le_of_ble_eq_true rfl) ⟨Nat.le_of_ble_eq_true rfl, Nat.le_of_ble_eq_true rfl⟩ ⟨(by first | omega | decide | (simp only [rmL, rmA]; omega)), (by first | omega | decide | (simp only [rmL, rmA]; omega))⟩ ?_
  rintro _ _ ⟨rfl, rfl⟩
  refine r_if_ne (tgt := 14) X dX7_takeThis_5 (by decide) (fun h5 => ?_) (fun h5 => ?_)
  · skip
    refine r_aload_n X dX7_takeThis_14 rfl rfl ?_
    refine q_callV X dX7_takeThis_15 mX7_46 cwX7_advance (c_adv GE S I V J N a e nx hT hK.1 hK.2.1 hK.2.2.1 hK.2.2.2.2.2) rfl (by assumption) rfl rfl rfl (Nat.le_of_ble_eq_true rfl) ⟨Nat.le_of_ble_eq_true rfl, Nat.le_of_ble_eq_true rfl⟩ ⟨(by first | omega | decide | (simp only [rmL, rmA]; omega)), (by first | omega | decide | (simp only [rmL, rmA]; omega))⟩ ?_
    rintro _ _ ⟨rfl, rfl⟩
    refine r_iconst (v := 1) X dX7_takeThis_18 (by decide) ?_
    refine r_ireturn X dX7_takeThis_19 rfl (by first | omega | decide | (simp only [rmL, rmA]; omega)) (by first | omega | decide | (simp only [rmL, rmA]; omega)) ?_
    have hw := bI_1 h5
    exact ⟨by rw [hw]; rfl, by rw [tThis, hw, if_pos rfl]⟩
  · skip
    refine r_aload_n X dX7_takeThis_8 rfl rfl ?_
    refine r_iconst (v := 1) X dX7_takeThis_9 (by decide) ?_
    refine q_callV X dX7_takeThis_10 mX7_63 cwX7_fail (c_tFail GE S I V J N a _ hT) rfl (by assumption) rfl rfl rfl (Nat.le_of_ble_eq_true rfl) ⟨Nat.le_of_ble_eq_true rfl, Nat.le_of_ble_eq_true rfl⟩ ⟨(by first | omega | decide | (simp only [rmL, rmA]; omega)), (by first | omega | decide | (simp only [rmL, rmA]; omega))⟩ ?_
    rintro _ _ ⟨rfl, rfl⟩
    refine r_ireturn X dX7_takeThis_13 rfl (by first | omega | decide | (simp only [rmL, rmA]; omega)) (by first | omega | decide | (simp only [rmL, rmA]; omega)) ?_
    have hw := bI_0 h5
    exact ⟨by rw [hw]; rfl, by rw [tThis, hw, if_neg (by decide)]⟩
def tOpen (I : Mem) (a n : Nat) : Mem := tAdv (up2 (up2 (up2 (up2 (up2 I a 2 (nI n)) a 1 0) a 3 0) a 7 0) a 8 (-1)) a n 0
set_option maxHeartbeats 2000000 in
set_option maxRecDepth 20000 in
/-- SledHouse$Tape.open -/
theorem c_tOpen {E : Ev} (GE : Glob E) (S : Nat → Option (Nat × Nat)) (I : Nat → Nat → Int32) (V : Nat → Nat → Option Nat) (J : Nat → Nat → Int64) (N : Nat) (a n : Nat) (hT : TapeSh S V a) (hn : n ≤ 400) : Ct E yX7_open cX7_open 2 none (rmL 2) [.ref a, .int (nI n)] (S, I, V, J, N) (fun v w' => v = none ∧ w' = (S, tOpen I a n, V, J, N)) := by
  refine Ct.start GE (by decide) rfl (Nat.le_of_ble_eq_true rfl) (fun M X => ?_)
  have X : Cx E M RX7 cX7_open 2 (rmL 2) none "open" := X
  refine r_loc (L' := [some (.ref a), some (.int (nI n))]) rfl ?_
  have hs0 := hT.1
  refine r_aload_n X dX7_open_0 rfl rfl ?_
  refine r_iload_n X dX7_open_1 rfl rfl ?_
  refine r_sipush (v := nI 400) X dX7_open_2 (by decide) ?_
  refine r_mmin X dX7_open_5 mmX7_40 (Nat.le_of_ble_eq_true rfl) (Nat.le_of_ble_eq_true rfl) (by first | omega | decide | (simp only [rmL, rmA]; omega)) (by first | omega | decide | (simp only [rmL, rmA]; omega)) ?_
  refine r_topi (nI n) (by rw [iMin_nI (by omega) (by decide), Nat.min_eq_left (by omega)]) ?_
  refine r_putI X dX7_open_8 fX7_19 wX7_19 (by assumption) rfl rfl ?_
  refine r_aload_n X dX7_open_11 rfl rfl ?_
  refine r_iconst (v := 0) X dX7_open_12 (by decide) ?_
  refine r_putI X dX7_open_13 fX7_15 wX7_15 (by assumption) rfl rfl ?_
  refine r_aload_n X dX7_open_16 rfl rfl ?_
  refine r_iconst (v := 0) X dX7_open_17 (by decide) ?_
  refine r_putI X dX7_open_18 fX7_22 wX7_22 (by assumption) rfl rfl ?_
  refine r_aload_n X dX7_open_21 rfl rfl ?_
  refine r_iconst (v := 0) X dX7_open_22 (by decide) ?_
  refine r_putI X dX7_open_23 fX7_34 wX7_34 (by assumption) rfl rfl ?_
  refine r_aload_n X dX7_open_26 rfl rfl ?_
  refine r_iconst (v := -1) X dX7_open_27 (by decide) ?_
  refine r_putI X dX7_open_28 fX7_37 wX7_37 (by assumption) rfl rfl ?_
  refine r_aload_n X dX7_open_31 rfl rfl ?_
  refine q_callV X dX7_open_32 mX7_46 cwX7_advance (c_adv GE S _ V J N a n 0 hT ((up2_k (by decide)).trans ((up2_k (by decide)).trans ((up2_k (by decide)).trans ((up2_k (by decide)).trans (up2_same _ _ _ _))))) hn ((up2_k (by decide)).trans ((up2_k (by decide)).trans (up2_same _ _ _ _))) (by omega)) rfl (by assumption) rfl rfl rfl (Nat.le_of_ble_eq_true rfl) ⟨Nat.le_of_ble_eq_true rfl, Nat.le_of_ble_eq_true rfl⟩ ⟨(by first | omega | decide | (simp only [rmL, rmA]; omega)), (by first | omega | decide | (simp only [rmL, rmA]; omega))⟩ ?_
  rintro _ _ ⟨rfl, rfl⟩
  refine r_return X dX7_open_35 (by first | omega | decide | (simp only [rmL, rmA]; omega)) (by first | omega | decide | (simp only [rmL, rmA]; omega)) ?_
  exact ⟨rfl, rfl⟩
