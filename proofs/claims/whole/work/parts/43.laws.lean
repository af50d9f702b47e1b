/-! ===== LawBook.readLaw, readFrom; SledHouse.laws ===== -/
theorem narbI (b : Bool) : narrow .boolean (.int (bI b)) = .int (bI b) := by cases b <;> rfl
/-- what reading laws keeps -/
def PL (a b c _k : Nat) : Prop := c ≠ a ∧ (c ≤ b ∨ b + 4 < c)
theorem kl_adv {a b : Nat} {I : Mem} : Kp (PL a b) I (adv I a) := fun c k q => adv_o q.1
theorem kl_fail {a b : Nat} {I : Mem} {x : Int32} : Kp (PL a b) I (tFail I a x) := fun c k q => (up2_a q.1).trans (up2_a q.1)
theorem npl {a b d i : Nat} (h1 : 1 ≤ d) (h4 : d ≤ 4) : ¬ PL a b (b + d) i := by unfold PL; omega
theorem kl_num {I : Mem} {a b d i : Nat} (h1 : 1 ≤ d) (h4 : d ≤ 4) : Kp (PL a b) I (rdNum I a (b + d) i).2 := by
  unfold rdNum
  split
  · exact (Kp.refl.up (npl h1 h4)).trans kl_adv
  · exact kl_fail
theorem kl_tail {I : Mem} {a b d i : Nat} {bs : List Int32} (h1 : 1 ≤ d) (h4 : d ≤ 4) : Kp (PL a b) I (rdTail I a (b + d) i bs).2 := by
  unfold rdTail
  split
  · exact kl_adv.trans (kl_num h1 h4)
  · exact kl_fail
theorem ok_tail {I : Mem} {a y i : Nat} {bs : List Int32} (h : (rdTail I a y i bs).1 = true) (hK : TkOK I a) (hne : y ≠ a) : TkOK (rdTail I a y i bs).2 a := by
  unfold rdTail at h ⊢
  split at h
  · next q =>
    rw [if_pos q]
    exact ok_num h hK.adv hne
  · cases h
theorem ok_second {I : Mem} {a b i : Nat} (h : (rdSecond I a b i).1 = true) (hK : TkOK I a) (hab : a + 1 < b) : TkOK (rdSecond I a b i).2 a :=
  ok_tail h (hK.keep (up2_a (by omega)) (up2_a (by omega)) (up2_a (by omega))) (by omega)
theorem ok_posts {I : Mem} {a b i : Nat} (h : (rdPosts I a b i).1 = true) (hK : TkOK I a) (hab : a + 1 < b) : TkOK (rdPosts I a b i).2 a := by
  have hK1 : ∀ y, TkOK (up2 I (b + 1) i y) a := fun y => hK.keep (up2_a (by omega)) (up2_a (by omega)) (up2_a (by omega))
  unfold rdPosts at h ⊢
  split at h
  · next q =>
    rw [if_pos q]
    split at h
    · next q2 =>
      rw [if_pos q2]
      exact ok_tail h (ok_num q2 (hK1 _).adv (by omega)) (by omega)
    · cases h
  · next q =>
    rw [if_neg q]
    exact ok_tail h (hK1 _) (by omega)
theorem kl_posts {I : Mem} {a b i : Nat} : Kp (PL a b) I (rdPosts I a b i).2 := by
  have h0 : ∀ y, Kp (PL a b) I (up2 I (b + 1) i y) := fun y => Kp.refl.up (npl (by omega) (by omega))
  unfold rdPosts
  split
  · split
    · exact (((h0 1).trans kl_adv).trans (kl_num (by omega) (by omega))).trans (kl_tail (by omega) (by omega))
    · exact ((h0 1).trans kl_adv).trans (kl_num (by omega) (by omega))
  · exact (h0 0).trans (kl_tail (by omega) (by omega))
theorem kl_second {I : Mem} {a b i : Nat} : Kp (PL a b) I (rdSecond I a b i).2 := (Kp.refl.up (npl (by omega) (by omega))).trans (kl_tail (by omega) (by omega))
def rdLawN (I : Mem) (a b i : Nat) : Bool × Mem := rdNum (adv (up2 (up2 I (b + 3) i 0) (b + 4) i 0) a) a (b + 2) i
def rdLaw (I : Mem) (a b i : Nat) : Bool × Mem :=
  if isW I a kw_rest = false ∧ isW I a kw_dogs = false ∧ isW I a kw_fine = false then (false, tFail I a 1)
  else if 10 ≤ i then (false, tFail I a 3)
  else if (rdLawN I a b i).1 = true then
    (if isW I a kw_dogs = true then (true, up2 (rdLawN I a b i).2 (b + 1) i 2) else if isW I a kw_rest = true then rdPosts (rdLawN I a b i).2 a b i else rdSecond (rdLawN I a b i).2 a b i)
  else (false, (rdLawN I a b i).2)
theorem kl_law {I : Mem} {a b i : Nat} : Kp (PL a b) I (rdLaw I a b i).2 := by
  have h0 : Kp (PL a b) I (rdLawN I a b i).2 := (((Kp.refl.up (npl (by omega) (by omega))).up (npl (by omega) (by omega))).trans kl_adv).trans (kl_num (by omega) (by omega))
  unfold rdLaw
  split
  · exact kl_fail
  · split
    · exact kl_fail
    · split
      · split
        · exact h0.up (npl (by omega) (by omega))
        · split
          · exact h0.trans kl_posts
          · exact h0.trans kl_second
      · exact h0
theorem ok_law {I : Mem} {a b i : Nat} (h : (rdLaw I a b i).1 = true) (hK : TkOK I a) (hab : a + 1 < b) : TkOK (rdLaw I a b i).2 a ∧ i < 10 := by
  have hK1 : TkOK (up2 (up2 I (b + 3) i 0) (b + 4) i 0) a := hK.keep ((up2_a (by omega)).trans (up2_a (by omega))) ((up2_a (by omega)).trans (up2_a (by omega))) ((up2_a (by omega)).trans (up2_a (by omega)))
  unfold rdLaw at h ⊢
  split at h
  · cases h
  · next q1 =>
    rw [if_neg q1]
    split at h
    · cases h
    · next q2 =>
      rw [if_neg q2]
      refine ⟨?_, by omega⟩
      split at h
      · next q3 =>
        have g : TkOK (rdLawN I a b i).2 a := ok_num q3 hK1.adv (by omega)
        rw [if_pos q3]
        split at h
        · next q4 =>
          rw [if_pos q4]
          exact g.keep (up2_a (by omega)) (up2_a (by omega)) (up2_a (by omega))
        · next q4 =>
          rw [if_neg q4]
          split at h
          · next q5 => rw [if_pos q5]; exact ok_posts h g hab
          · next q5 => rw [if_neg q5]; exact ok_second h g hab
      · cases h
set_option maxHeartbeats 2000000 in
set_option maxRecDepth 20000 in
/-- SledHouse$LawBook.readLaw -/
theorem c_rdLaw {E : Ev} (GE : Glob E) (S : Nat → Option (Nat × Nat)) (I : Nat → Nat → Int32) (V : Nat → Nat → Option Nat) (J : Nat → Nat → Int64) (N : Nat) (b a i : Nat) (hZ : Strs E) (hL : LawSh S V b) (hT : TapeSh S V a) (hK : TkOK I a) (hi : i ≤ 10) (hab : a + 1 < b) : Ct E yX2_readLaw cX2_readLaw 5 (some .boolean) (rmL 7) [.ref b, .ref a, .int (nI i)] (S, I, V, J, N) (fun v w' => v = some (.int (bI (rdLaw I a b i).1)) ∧ w' = (S, (rdLaw I a b i).2, V, J, N)) := by
  refine Ct.start GE (by decide) rfl (Nat.le_of_ble_eq_true rfl) (fun M X => ?_)
  have X : Cx E M RX2 cX2_readLaw 5 (rmL 7) (some .boolean) "readLaw" := X
  refine r_loc (L' := [some (.ref b), some (.ref a), some (.int (nI i)), none, none]) rfl ?_
  obtain ⟨hs0, hv0, hv1, hv2, hv3, hs1, hs2, hs3, hs4⟩ := id hL
  have ts0 := hT.1
  have hK1 : TkOK (up2 (up2 I (b + 3) i 0) (b + 4) i 0) a := hK.keep ((up2_a (by omega)).trans (up2_a (by omega))) ((up2_a (by omega)).trans (up2_a (by omega))) ((up2_a (by omega)).trans (up2_a (by omega)))
  have H : ¬ (isW I a kw_rest = false ∧ isW I a kw_dogs = false ∧ isW I a kw_fine = false) → G E M 0 0 (qQ E M (rmL 7) (fun v w' => v = some (.int (bI (rdLaw I a b i).1)) ∧ w' = (S, (rdLaw I a b i).2, V, J, N))) 39 [some (.ref b), some (.ref a), some (.int (nI i)), some (.int (bI (isW I a kw_rest))), some (.int (bI (isW I a kw_dogs)))] [] (S, I, V, J, N) := by
    intro g1
    rw [rdLaw, if_neg g1]
    refine r_iload_n X dX2_readLaw_39 rfl rfl ?_
    refine r_bipush (v := nI 10) X dX2_readLaw_40 (by decide) ?_
    refine r_icmpN_lt (tgt := 51) X dX2_readLaw_42 (by decide) (by omega) (by omega) (fun h42 => ?_) (fun h42 => ?_)
    · skip
      rw [if_neg (by omega)]
      refine r_aload_n X dX2_readLaw_51 rfl rfl ?_
      refine r_getR X dX2_readLaw_52 fX2_18 (by assumption) (by assumption) ?_
      refine r_iload_n X dX2_readLaw_55 rfl rfl ?_
      refine r_iconst (v := 0) X dX2_readLaw_56 (by decide) ?_
      refine r_iastN X dX2_readLaw_57 (by assumption) (by omega) (by omega) ?_
      refine r_aload_n X dX2_readLaw_58 rfl rfl ?_
      refine r_getR X dX2_readLaw_59 fX2_21 (by assumption) (by assumption) ?_
      refine r_iload_n X dX2_readLaw_62 rfl rfl ?_
      refine r_iconst (v := 0) X dX2_readLaw_63 (by decide) ?_
      refine r_iastN X dX2_readLaw_64 (by assumption) (by omega) (by omega) ?_
      refine r_aload_n X dX2_readLaw_65 rfl rfl ?_
      refine q_callV X dX2_readLaw_66 mX2_55 cwX7_advance (c_advK GE S _ V J N a hT hK1) rfl (by assumption) rfl rfl rfl (Nat.le_of_ble_eq_true rfl) ⟨Nat.le_of_ble_eq_true rfl, Nat.le_of_ble_eq_true rfl⟩ ⟨(by first | omega | decide | (simp only [rmL, rmA]; omega)), (by first | omega | decide | (simp only [rmL, rmA]; omega))⟩ ?_
      rintro _ _ ⟨rfl, rfl⟩
      refine r_aload_n X dX2_readLaw_69 rfl rfl ?_
      refine r_aload_n X dX2_readLaw_70 rfl rfl ?_
      refine r_getR X dX2_readLaw_71 fX2_15 (by assumption) (by assumption) ?_
      refine r_iload_n X dX2_readLaw_74 rfl rfl ?_
      refine q_callS X dX2_readLaw_75 mX2_58 cwX2_readNumber (c_rdNum GE S _ V J N a (b + 2) i hT hK1.adv hs2 (by omega) (by omega)) rfl rfl (Nat.le_of_ble_eq_true rfl) ⟨Nat.le_of_ble_eq_true rfl, Nat.le_of_ble_eq_true rfl⟩ ⟨(by first | omega | decide | (simp only [rmL, rmA]; omega)), (by first | omega | decide | (simp only [rmL, rmA]; omega))⟩ ?_
      rintro _ _ ⟨rfl, rfl⟩
      refine r_if_ne (tgt := 83) X dX2_readLaw_78 (by decide) (fun h78 => ?_) (fun h78 => ?_)
      · skip
        have g3 : (rdLawN I a b i).1 = true := bI_1 h78
        have hK3 : TkOK (rdLawN I a b i).2 a := ok_num g3 hK1.adv (by omega)
        refine r_world (w' := (S, (rdLawN I a b i).2, V, J, N)) rfl ?_
        rw [if_pos g3]
        refine r_iload X dX2_readLaw_83 rfl ?_
        refine r_if_eq (tgt := 97) X dX2_readLaw_85 (by decide) (fun h85 => ?_) (fun h85 => ?_)
        · skip
          rw [if_neg (by rw [bI_0 h85]; decide)]
          refine r_iload_n X dX2_readLaw_97 rfl rfl ?_
          refine r_if_eq (tgt := 110) X dX2_readLaw_98 (by decide) (fun h98 => ?_) (fun h98 => ?_)
          · skip
            rw [if_neg (by rw [bI_0 h98]; decide)]
            refine r_aload_n X dX2_readLaw_110 rfl rfl ?_
            refine r_aload_n X dX2_readLaw_111 rfl rfl ?_
            refine r_iload_n X dX2_readLaw_112 rfl rfl ?_
            refine q_callV X dX2_readLaw_113 mX2_65 cwX2_readSecondFine (c_rdSecond GE S _ V J N b a i hZ hL hT hK3 (by omega) hab) rfl (by assumption) rfl rfl rfl (Nat.le_of_ble_eq_true rfl) ⟨Nat.le_of_ble_eq_true rfl, Nat.le_of_ble_eq_true rfl⟩ ⟨(by first | omega | decide | (simp only [rmL, rmA]; omega)), (by first | omega | decide | (simp only [rmL, rmA]; omega))⟩ ?_
            rintro _ _ ⟨rfl, rfl⟩
            refine r_ireturn X dX2_readLaw_116 (narbI _) (by first | omega | decide | (simp only [rmL, rmA]; omega)) (by first | omega | decide | (simp only [rmL, rmA]; omega)) ?_
            exact ⟨rfl, rfl⟩
          · skip
            rw [if_pos (bI_1 h98)]
            refine r_aload_n X dX2_readLaw_101 rfl rfl ?_
            refine r_aload_n X dX2_readLaw_102 rfl rfl ?_
            refine r_iload_n X dX2_readLaw_103 rfl rfl ?_
            refine q_callV X dX2_readLaw_104 mX2_62 cwX2_readPosts (c_rdPosts GE S _ V J N b a i hZ hL hT hK3 (by omega) hab) rfl (by assumption) rfl rfl rfl (Nat.le_of_ble_eq_true rfl) ⟨Nat.le_of_ble_eq_true rfl, Nat.le_of_ble_eq_true rfl⟩ ⟨(by first | omega | decide | (simp only [rmL, rmA]; omega)), (by first | omega | decide | (simp only [rmL, rmA]; omega))⟩ ?_
            rintro _ _ ⟨rfl, rfl⟩
            refine r_goto (tgt := 116) X dX2_readLaw_107 (by decide) ?_
            refine r_ireturn X dX2_readLaw_116 (narbI _) (by first | omega | decide | (simp only [rmL, rmA]; omega)) (by first | omega | decide | (simp only [rmL, rmA]; omega)) ?_
            exact ⟨rfl, rfl⟩
        · skip
          rw [if_pos (bI_1 h85)]
          refine r_aload_n X dX2_readLaw_88 rfl rfl ?_
          refine r_getR X dX2_readLaw_89 fX2_9 (by assumption) (by assumption) ?_
          refine r_iload_n X dX2_readLaw_92 rfl rfl ?_
          refine r_iconst (v := 2) X dX2_readLaw_93 (by decide) ?_
          refine r_iastN X dX2_readLaw_94 (by assumption) (by omega) (by omega) ?_
          refine r_iconst (v := 1) X dX2_readLaw_95 (by decide) ?_
          refine r_ireturn X dX2_readLaw_96 rfl (by first | omega | decide | (simp only [rmL, rmA]; omega)) (by first | omega | decide | (simp only [rmL, rmA]; omega)) ?_
          exact ⟨rfl, rfl⟩
      · skip
        have g3 : (rdLawN I a b i).1 = false := bI_0 h78
        rw [if_neg (by rw [g3]; decide)]
        refine r_iconst (v := 0) X dX2_readLaw_81 (by decide) ?_
        refine r_ireturn X dX2_readLaw_82 rfl (by first | omega | decide | (simp only [rmL, rmA]; omega)) (by first | omega | decide | (simp only [rmL, rmA]; omega)) ?_
        exact ⟨rfl, rfl⟩
    · skip
      rw [if_pos (by omega)]
      refine r_aload_n X dX2_readLaw_45 rfl rfl ?_
      refine r_iconst (v := 3) X dX2_readLaw_46 (by decide) ?_
      refine q_callV X dX2_readLaw_47 mX2_41 cwX7_fail (c_tFail GE S I V J N a _ hT) rfl (by assumption) rfl rfl rfl (Nat.le_of_ble_eq_true rfl) ⟨Nat.le_of_ble_eq_true rfl, Nat.le_of_ble_eq_true rfl⟩ ⟨(by first | omega | decide | (simp only [rmL, rmA]; omega)), (by first | omega | decide | (simp only [rmL, rmA]; omega))⟩ ?_
      rintro _ _ ⟨rfl, rfl⟩
      refine r_ireturn X dX2_readLaw_50 rfl (by first | omega | decide | (simp only [rmL, rmA]; omega)) (by first | omega | decide | (simp only [rmL, rmA]; omega)) ?_
      exact ⟨rfl, rfl⟩
  refine r_aload_n X dX2_readLaw_0 rfl rfl ?_
  refine r_ldcS X dX2_readLaw_1 (sX2_45 hZ) (fun u1 hu1 => ?_)
  refine q_callV X dX2_readLaw_3 mX2_47 cwX7_isWord (c_isW GE S I V J N a _ kw_rest hZ hT hK (by assumption)) rfl (by assumption) rfl rfl rfl (Nat.le_of_ble_eq_true rfl) ⟨Nat.le_of_ble_eq_true rfl, Nat.le_of_ble_eq_true rfl⟩ ⟨(by first | omega | decide | (simp only [rmL, rmA]; omega)), (by first | omega | decide | (simp only [rmL, rmA]; omega))⟩ ?_
  rintro _ _ ⟨rfl, rfl⟩
  refine r_istore_n X dX2_readLaw_6 rfl (by decide) rfl ?_
  refine r_aload_n X dX2_readLaw_7 rfl rfl ?_
  refine r_ldcS X dX2_readLaw_8 (sX2_51 hZ) (fun u8 hu8 => ?_)
  refine q_callV X dX2_readLaw_10 mX2_47 cwX7_isWord (c_isW GE S I V J N a _ kw_dogs hZ hT hK (by assumption)) rfl (by assumption) rfl rfl rfl (Nat.le_of_ble_eq_true rfl) ⟨Nat.le_of_ble_eq_true rfl, Nat.le_of_ble_eq_true rfl⟩ ⟨(by first | omega | decide | (simp only [rmL, rmA]; omega)), (by first | omega | decide | (simp only [rmL, rmA]; omega))⟩ ?_
  rintro _ _ ⟨rfl, rfl⟩
  refine r_istore X dX2_readLaw_13 (by decide) rfl ?_
  refine r_iload_n X dX2_readLaw_15 rfl rfl ?_
  refine r_if_ne (tgt := 39) X dX2_readLaw_16 (by decide) (fun h16 => ?_) (fun h16 => ?_)
  · skip
    first
      | exact H (fun q => by have := bI_1 h30; rw [q.2.2] at this; cases this)
      | exact H (fun q => by have := bI_1 h21; rw [q.2.1] at this; cases this)
      | exact H (fun q => by have := bI_1 h16; rw [q.1] at this; cases this)
  · skip
    refine r_iload X dX2_readLaw_19 rfl ?_
    refine r_if_ne (tgt := 39) X dX2_readLaw_21 (by decide) (fun h21 => ?_) (fun h21 => ?_)
    · skip
      first
        | exact H (fun q => by have := bI_1 h30; rw [q.2.2] at this; cases this)
        | exact H (fun q => by have := bI_1 h21; rw [q.2.1] at this; cases this)
        | exact H (fun q => by have := bI_1 h16; rw [q.1] at this; cases this)
    · skip
      refine r_aload_n X dX2_readLaw_24 rfl rfl ?_
      refine r_ldcS X dX2_readLaw_25 (sX2_53 hZ) (fun u25 hu25 => ?_)
      refine q_callV X dX2_readLaw_27 mX2_47 cwX7_isWord (c_isW GE S I V J N a _ kw_fine hZ hT hK (by assumption)) rfl (by assumption) rfl rfl rfl (Nat.le_of_ble_eq_true rfl) ⟨Nat.le_of_ble_eq_true rfl, Nat.le_of_ble_eq_true rfl⟩ ⟨(by first | omega | decide | (simp only [rmL, rmA]; omega)), (by first | omega | decide | (simp only [rmL, rmA]; omega))⟩ ?_
      rintro _ _ ⟨rfl, rfl⟩
      refine r_if_ne (tgt := 39) X dX2_readLaw_30 (by decide) (fun h30 => ?_) (fun h30 => ?_)
      · skip
        first
          | exact H (fun q => by have := bI_1 h30; rw [q.2.2] at this; cases this)
          | exact H (fun q => by have := bI_1 h21; rw [q.2.1] at this; cases this)
          | exact H (fun q => by have := bI_1 h16; rw [q.1] at this; cases this)
      · skip
        refine r_aload_n X dX2_readLaw_33 rfl rfl ?_
        refine r_iconst (v := 1) X dX2_readLaw_34 (by decide) ?_
        refine q_callV X dX2_readLaw_35 mX2_41 cwX7_fail (c_tFail GE S I V J N a _ hT) rfl (by assumption) rfl rfl rfl (Nat.le_of_ble_eq_true rfl) ⟨Nat.le_of_ble_eq_true rfl, Nat.le_of_ble_eq_true rfl⟩ ⟨(by first | omega | decide | (simp only [rmL, rmA]; omega)), (by first | omega | decide | (simp only [rmL, rmA]; omega))⟩ ?_
        rintro _ _ ⟨rfl, rfl⟩
        refine r_ireturn X dX2_readLaw_38 rfl (by first | omega | decide | (simp only [rmL, rmA]; omega)) (by first | omega | decide | (simp only [rmL, rmA]; omega)) ?_
        rw [rdLaw, if_pos ⟨bI_0 h16, bI_0 h21, bI_0 h30⟩]
        exact ⟨rfl, rfl⟩
def rdLs (I : Mem) (a b i : Nat) : Nat → Bool × Mem
  | 0 => (false, tFail I a 3)
  | f + 1 => if (rdLaw I a b i).1 = true then
      (if (rdLaw I a b i).2 a 4 = 0 then (true, up2 (rdLaw I a b i).2 b 4 (nI (i + 1)))
       else if (rdLaw I a b i).2 a 4 = 5 then rdLs (adv (rdLaw I a b i).2 a) a b (i + 1) f
       else (false, tFail (rdLaw I a b i).2 a 1))
    else (false, (rdLaw I a b i).2)
def rdLaws (I : Mem) (a b k : Nat) : Bool × Mem := rdLs I a b k (11 - k)
set_option maxHeartbeats 2000000 in
set_option maxRecDepth 20000 in
/-- SledHouse$LawBook.readFrom -/
theorem c_rdLaws {E : Ev} (GE : Glob E) (S : Nat → Option (Nat × Nat)) (I : Nat → Nat → Int32) (V : Nat → Nat → Option Nat) (J : Nat → Nat → Int64) (N : Nat) (b a k : Nat) (hZ : Strs E) (hL : LawSh S V b) (hT : TapeSh S V a) (hK : TkOK I a) (hk : I b 4 = nI k) (hk10 : k ≤ 10) (hab : a + 1 < b) : Ct E yX2_readFrom cX2_readFrom 3 (some .boolean) (rmL 8) [.ref b, .ref a] (S, I, V, J, N) (fun v w' => v = some (.int (bI (rdLaws I a b k).1)) ∧ w' = (S, (rdLaws I a b k).2, V, J, N)) := by
  refine Ct.start GE (by decide) rfl (Nat.le_of_ble_eq_true rfl) (fun M X => ?_)
  have X : Cx E M RX2 cX2_readFrom 3 (rmL 8) (some .boolean) "readFrom" := X
  refine r_loc (L' := [some (.ref b), some (.ref a), none]) rfl ?_
  have ts0 := hT.1
  have hs0 := hL.1
  have H : ∀ j, j ≤ 11 → ∀ I1 : Mem, TkOK I1 a → rdLaws I a b k = rdLs I1 a b j (11 - j) → G E M 0 0 (qQ E M (rmL 8) (fun v w' => v = some (.int (bI (rdLaws I a b k).1)) ∧ w' = (S, (rdLaws I a b k).2, V, J, N))) 5 [some (.ref b), some (.ref a), some (.int (nI j))] [] (S, I1, V, J, N) := by
    refine loopN 11 (fun j hj ih => ?_)
    intro I1 hK1 he
    rcases Nat.lt_or_ge j 11 with z | z
    · skip
      rw [show 11 - j = (11 - (j + 1)) + 1 by omega, rdLs] at he
      refine r_iload_n X dX2_readFrom_5 rfl rfl ?_
      refine r_bipush (v := nI 10) X dX2_readFrom_6 (by decide) ?_
      refine r_icmpN_gt (tgt := 53) X dX2_readFrom_8 (by decide) (by omega) (by omega) (fun h8 => ?_) (fun h8 => ?_)
      · skip
        omega
      · skip
        refine r_aload_n X dX2_readFrom_11 rfl rfl ?_
        refine r_aload_n X dX2_readFrom_12 rfl rfl ?_
        refine r_iload_n X dX2_readFrom_13 rfl rfl ?_
        refine q_callV X dX2_readFrom_14 mX2_28 cwX2_readLaw (c_rdLaw GE S I1 V J N b a j hZ hL hT hK1 (by omega) hab) rfl (by assumption) rfl rfl rfl (Nat.le_of_ble_eq_true rfl) ⟨Nat.le_of_ble_eq_true rfl, Nat.le_of_ble_eq_true rfl⟩ ⟨(by first | omega | decide | (simp only [rmL, rmA]; omega)), (by first | omega | decide | (simp only [rmL, rmA]; omega))⟩ ?_
        rintro _ _ ⟨rfl, rfl⟩
        refine r_if_ne (tgt := 22) X dX2_readFrom_17 (by decide) (fun h17 => ?_) (fun h17 => ?_)
        · skip
          have g1 := bI_1 h17
          obtain ⟨g2, g4⟩ := ok_law g1 hK1 hab
          rw [if_pos g1] at he
          refine r_aload_n X dX2_readFrom_22 rfl rfl ?_
          refine r_getI X dX2_readFrom_23 fX2_32 (by assumption) (by first | assumption | rfl) ?_
          refine r_if_ne (tgt := 38) X dX2_readFrom_26 (by decide) (fun h26 => ?_) (fun h26 => ?_)
          · skip
            refine r_aload_n X dX2_readFrom_38 rfl rfl ?_
            refine q_callV X dX2_readFrom_39 mX2_37 cwX7_takeSemicolon (c_tSemi GE S _ V J N a _ _ _ hT g2) rfl (by assumption) rfl rfl rfl (Nat.le_of_ble_eq_true rfl) ⟨Nat.le_of_ble_eq_true rfl, Nat.le_of_ble_eq_true rfl⟩ ⟨(by first | omega | decide | (simp only [rmL, rmA]; omega)), (by first | omega | decide | (simp only [rmL, rmA]; omega))⟩ ?_
            rintro _ _ ⟨rfl, rfl⟩
            refine r_if_ne (tgt := 47) X dX2_readFrom_42 (by decide) (fun h42 => ?_) (fun h42 => ?_)
            · skip
              first | refine r_iincN X dX2_readFrom_47 rfl (by decide) rfl ?_ | refine r_iinc X dX2_readFrom_47 rfl rfl (by decide) rfl ?_
              refine r_goto (tgt := 5) X dX2_readFrom_50 (by decide) ?_
              have g8 : (rdLaw I1 a b j).2 a 4 = 5 := of_decide_eq_true (bI_1 h42)
              rw [if_neg h26, if_pos g8] at he
              refine r_world (w' := (S, adv (rdLaw I1 a b j).2 a, V, J, N)) (by rw [tSemi, if_pos g8]; rfl) ?_
              exact ih z _ g2.adv he
            · skip
              refine r_iconst (v := 0) X dX2_readFrom_45 (by decide) ?_
              refine r_ireturn X dX2_readFrom_46 rfl (by first | omega | decide | (simp only [rmL, rmA]; omega)) (by first | omega | decide | (simp only [rmL, rmA]; omega)) ?_
              have g8 : ¬ (rdLaw I1 a b j).2 a 4 = 5 := fun q => by have := bI_0 h42; rw [decide_eq_true q] at this; cases this
              rw [he, if_neg h26, if_neg g8]
              exact ⟨rfl, by rw [tSemi, if_neg g8]⟩
          · skip
            refine r_aload_n X dX2_readFrom_29 rfl rfl ?_
            refine r_iload_n X dX2_readFrom_30 rfl rfl ?_
            refine r_iconst (v := 1) X dX2_readFrom_31 (by decide) ?_
            refine r_iadd X dX2_readFrom_32 ?_
            refine r_topi (nI (j + 1)) (nI_1 _) ?_
            refine r_putI X dX2_readFrom_33 fX2_24 wX2_24 (by assumption) rfl rfl ?_
            refine r_iconst (v := 1) X dX2_readFrom_36 (by decide) ?_
            refine r_ireturn X dX2_readFrom_37 rfl (by first | omega | decide | (simp only [rmL, rmA]; omega)) (by first | omega | decide | (simp only [rmL, rmA]; omega)) ?_
            rw [he, if_pos h26]
            exact ⟨rfl, rfl⟩
        · skip
          refine r_iconst (v := 0) X dX2_readFrom_20 (by decide) ?_
          refine r_ireturn X dX2_readFrom_21 rfl (by first | omega | decide | (simp only [rmL, rmA]; omega)) (by first | omega | decide | (simp only [rmL, rmA]; omega)) ?_
          rw [he, if_neg (by rw [bI_0 h17]; decide)]
          exact ⟨rfl, rfl⟩
    · skip
      obtain rfl : j = 11 := by omega
      rw [he]
      refine r_iload_n X dX2_readFrom_5 rfl rfl ?_
      refine r_bipush (v := nI 10) X dX2_readFrom_6 (by decide) ?_
      refine r_icmpN_gt (tgt := 53) X dX2_readFrom_8 (by decide) (by omega) (by omega) (fun h8 => ?_) (fun h8 => ?_)
      · skip
        refine r_aload_n X dX2_readFrom_53 rfl rfl ?_
        refine r_iconst (v := 3) X dX2_readFrom_54 (by decide) ?_
        refine q_callV X dX2_readFrom_55 mX2_41 cwX7_fail (c_tFail GE S I1 V J N a _ hT) rfl (by assumption) rfl rfl rfl (Nat.le_of_ble_eq_true rfl) ⟨Nat.le_of_ble_eq_true rfl, Nat.le_of_ble_eq_true rfl⟩ ⟨(by first | omega | decide | (simp only [rmL, rmA]; omega)), (by first | omega | decide | (simp only [rmL, rmA]; omega))⟩ ?_
        rintro _ _ ⟨rfl, rfl⟩
        refine r_ireturn X dX2_readFrom_58 rfl (by first | omega | decide | (simp only [rmL, rmA]; omega)) (by first | omega | decide | (simp only [rmL, rmA]; omega)) ?_
        exact ⟨rfl, rfl⟩
      · skip
        omega
  refine r_aload_n X dX2_readFrom_0 rfl rfl ?_
  refine r_getI X dX2_readFrom_1 fX2_24 (by assumption) (by first | assumption | rfl) ?_
  refine r_istore_n X dX2_readFrom_4 rfl (by decide) rfl ?_
  exact H k (by omega) I hK rfl
theorem kl_ls {a b : Nat} : ∀ (f i : Nat) (I : Mem), Kp (fun c k => PL a b c k ∧ ¬ (c = b ∧ k = 4)) I (rdLs I a b i f).2
  | 0, i, I => kl_fail.mono (fun c k q => q.1)
  | f + 1, i, I => by
    have h0 : Kp (fun c k => PL a b c k ∧ ¬ (c = b ∧ k = 4)) I (rdLaw I a b i).2 := kl_law.mono (fun c k q => q.1)
    unfold rdLs
    split
    · split
      · exact h0.up (fun q => q.2 ⟨rfl, rfl⟩)
      · split
        · exact (h0.trans (kl_adv.mono (fun c k q => q.1))).trans (kl_ls f _ _)
        · exact h0.trans (kl_fail.mono (fun c k q => q.1))
    · exact h0
def hLaws (I : Mem) (h z k : Nat) (x : Int32) : Int32 × Mem := match ixI x (z + 1) with
  | none => (-1, up2 I h 8 2)
  | some n => if (rdLaws (tOpen I (h + 1) n) (h + 1) (h + 4) k).1 = true then ((rdLaws (tOpen I (h + 1) n) (h + 1) (h + 4) k).2 (h + 4) 4, up2 (rdLaws (tOpen I (h + 1) n) (h + 1) (h + 4) k).2 h 8 0)
    else (-1, up2 (rdLaws (tOpen I (h + 1) n) (h + 1) (h + 4) k).2 h 8 4)
set_option maxHeartbeats 2000000 in
set_option maxRecDepth 20000 in
/-- SledHouse.laws -/
theorem c_hLaws {E : Ev} (GE : Glob E) (S : Nat → Option (Nat × Nat)) (I : Nat → Nat → Int32) (V : Nat → Nat → Option Nat) (J : Nat → Nat → Int64) (N : Nat) (h z k : Nat) (x : Int32) (hZ : Strs E) (hH : HouseSh S V h) (hz : I (h + 1) 1 = nI z) (hz4 : z ≤ 400) (hk : I (h + 4) 4 = nI k) (hk10 : k ≤ 10) : Ct E yX10_laws cX10_laws 2 (some .int) (rmL 9) [.ref h, .int x] (S, I, V, J, N) (fun v w' => v = some (.int (hLaws I h z k x).1) ∧ w' = (S, (hLaws I h z k x).2, V, J, N)) := by
  refine Ct.start GE (by decide) rfl (Nat.le_of_ble_eq_true rfl) (fun M X => ?_)
  have X : Cx E M RX10 cX10_laws 2 (rmL 9) (some .int) "laws" := X
  refine r_loc (L' := [some (.ref h), some (.int x)]) rfl ?_
  obtain ⟨hs0, hv0, hv1, hv2, hv3, hv4, hv5, hTp, hs3, hPl, hLw, hRc, hs76, hGh, hRow⟩ := id hH
  have ts0 := hTp.1
  have ls0 := hLw.1
  rcases hx : ixI x (z + 1) with _ | n
  · skip
    have hxx := ixI_none hx
    rw [show hLaws I h z k x = (-1, up2 I h 8 2) by simp [hLaws, hx]]
    refine r_iload_n X dX10_laws_0 rfl rfl ?_
    refine r_if_lt (tgt := 15) X dX10_laws_1 (by decide) (fun h1 => ?_) (fun h1 => ?_)
    · skip
      refine r_aload_n X dX10_laws_15 rfl rfl ?_
      refine r_iconst (v := 2) X dX10_laws_16 (by decide) ?_
      refine q_callV X dX10_laws_17 mX10_73 cwX10_refuse (c_hRefuse GE S I V J N h _ hs0) rfl (by assumption) rfl rfl rfl (Nat.le_of_ble_eq_true rfl) ⟨Nat.le_of_ble_eq_true rfl, Nat.le_of_ble_eq_true rfl⟩ ⟨(by first | omega | decide | (simp only [rmL, rmA]; omega)), (by first | omega | decide | (simp only [rmL, rmA]; omega))⟩ ?_
      rintro _ _ ⟨rfl, rfl⟩
      refine r_ireturn X dX10_laws_20 rfl (by first | omega | decide | (simp only [rmL, rmA]; omega)) (by first | omega | decide | (simp only [rmL, rmA]; omega)) ?_
      exact ⟨rfl, rfl⟩
    · skip
      refine r_iload_n X dX10_laws_4 rfl rfl ?_
      refine r_aload_n X dX10_laws_5 rfl rfl ?_
      refine r_getR X dX10_laws_6 fX10_10 (by assumption) (by assumption) ?_
      refine r_getI X dX10_laws_9 fX10_115 (by assumption) (by first | assumption | rfl) ?_
      refine r_icmp_le (tgt := 21) X dX10_laws_12 (by decide) (fun h12 => ?_) (fun h12 => ?_)
      · skip
        refine hxx.elim (fun q => absurd q h1) (fun q => ?_)
        obtain ⟨m, hm, rfl⟩ := nI_of h1
        exact absurd (nI_leI hm (by omega) |>.mp h12) (by have := (nI_leI (by omega) hm).mp q; omega)
      · skip
        refine r_aload_n X dX10_laws_15 rfl rfl ?_
        refine r_iconst (v := 2) X dX10_laws_16 (by decide) ?_
        refine q_callV X dX10_laws_17 mX10_73 cwX10_refuse (c_hRefuse GE S I V J N h _ hs0) rfl (by assumption) rfl rfl rfl (Nat.le_of_ble_eq_true rfl) ⟨Nat.le_of_ble_eq_true rfl, Nat.le_of_ble_eq_true rfl⟩ ⟨(by first | omega | decide | (simp only [rmL, rmA]; omega)), (by first | omega | decide | (simp only [rmL, rmA]; omega))⟩ ?_
        rintro _ _ ⟨rfl, rfl⟩
        refine r_ireturn X dX10_laws_20 rfl (by first | omega | decide | (simp only [rmL, rmA]; omega)) (by first | omega | decide | (simp only [rmL, rmA]; omega)) ?_
        exact ⟨rfl, rfl⟩
  · skip
    obtain ⟨hn, rfl⟩ := ixI_some (by omega) hx
    have p1 : tOpen I (h + 1) n (h + 4) 4 = nI k := (open_o (by omega)).trans hk
    have he : hLaws I h z k (nI n) = if (rdLaws (tOpen I (h + 1) n) (h + 1) (h + 4) k).1 = true then ((rdLaws (tOpen I (h + 1) n) (h + 1) (h + 4) k).2 (h + 4) 4, up2 (rdLaws (tOpen I (h + 1) n) (h + 1) (h + 4) k).2 h 8 0) else (-1, up2 (rdLaws (tOpen I (h + 1) n) (h + 1) (h + 4) k).2 h 8 4) := by simp only [hLaws, hx]
    rw [he]
    refine r_iload_n X dX10_laws_0 rfl rfl ?_
    refine r_if_lt (tgt := 15) X dX10_laws_1 (by decide) (fun h1 => ?_) (fun h1 => ?_)
    · skip
      exact absurd h1 (nI_pos (by omega))
    · skip
      refine r_iload_n X dX10_laws_4 rfl rfl ?_
      refine r_aload_n X dX10_laws_5 rfl rfl ?_
      refine r_getR X dX10_laws_6 fX10_10 (by assumption) (by assumption) ?_
      refine r_getI X dX10_laws_9 fX10_115 (by assumption) (by first | assumption | rfl) ?_
      refine r_icmpN_le (tgt := 21) X dX10_laws_12 (by decide) (by omega) (by omega) (fun h12 => ?_) (fun h12 => ?_)
      · skip
        refine r_aload_n X dX10_laws_21 rfl rfl ?_
        refine r_getR X dX10_laws_22 fX10_10 (by assumption) (by assumption) ?_
        refine r_iload_n X dX10_laws_25 rfl rfl ?_
        refine q_callV X dX10_laws_26 mX10_122 cwX7_open (c_tOpen GE S I V J N (h + 1) n hTp (by omega)) rfl (by assumption) rfl rfl rfl (Nat.le_of_ble_eq_true rfl) ⟨Nat.le_of_ble_eq_true rfl, Nat.le_of_ble_eq_true rfl⟩ ⟨(by first | omega | decide | (simp only [rmL, rmA]; omega)), (by first | omega | decide | (simp only [rmL, rmA]; omega))⟩ ?_
        rintro _ _ ⟨rfl, rfl⟩
        refine r_aload_n X dX10_laws_29 rfl rfl ?_
        refine r_getR X dX10_laws_30 fX10_25 (by assumption) (by assumption) ?_
        refine r_aload_n X dX10_laws_33 rfl rfl ?_
        refine r_getR X dX10_laws_34 fX10_10 (by assumption) (by assumption) ?_
        refine q_callV X dX10_laws_37 mX10_129 cwX2_readFrom (c_rdLaws GE S _ V J N (h + 4) (h + 1) k hZ hLw hTp (ok_open (by omega)) p1 hk10 (by omega)) rfl (by assumption) rfl rfl rfl (Nat.le_of_ble_eq_true rfl) ⟨Nat.le_of_ble_eq_true rfl, Nat.le_of_ble_eq_true rfl⟩ ⟨(by first | omega | decide | (simp only [rmL, rmA]; omega)), (by first | omega | decide | (simp only [rmL, rmA]; omega))⟩ ?_
        rintro _ _ ⟨rfl, rfl⟩
        refine r_if_ne (tgt := 49) X dX10_laws_40 (by decide) (fun h40 => ?_) (fun h40 => ?_)
        · skip
          refine r_aload_n X dX10_laws_49 rfl rfl ?_
          refine r_aload_n X dX10_laws_50 rfl rfl ?_
          refine r_getR X dX10_laws_51 fX10_25 (by assumption) (by assumption) ?_
          refine r_getI X dX10_laws_54 fX10_130 (by assumption) (by first | assumption | rfl) ?_
          refine q_callV X dX10_laws_57 mX10_94 cwX10_grant (c_hGrant GE S _ V J N h _ hs0) rfl (by assumption) rfl rfl rfl (Nat.le_of_ble_eq_true rfl) ⟨Nat.le_of_ble_eq_true rfl, Nat.le_of_ble_eq_true rfl⟩ ⟨(by first | omega | decide | (simp only [rmL, rmA]; omega)), (by first | omega | decide | (simp only [rmL, rmA]; omega))⟩ ?_
          rintro _ _ ⟨rfl, rfl⟩
          refine r_ireturn X dX10_laws_60 rfl (by first | omega | decide | (simp only [rmL, rmA]; omega)) (by first | omega | decide | (simp only [rmL, rmA]; omega)) ?_
          rw [if_pos (bI_1 h40)]
          exact ⟨rfl, rfl⟩
        · skip
          refine r_aload_n X dX10_laws_43 rfl rfl ?_
          refine r_iconst (v := 4) X dX10_laws_44 (by decide) ?_
          refine q_callV X dX10_laws_45 mX10_73 cwX10_refuse (c_hRefuse GE S _ V J N h _ hs0) rfl (by assumption) rfl rfl rfl (Nat.le_of_ble_eq_true rfl) ⟨Nat.le_of_ble_eq_true rfl, Nat.le_of_ble_eq_true rfl⟩ ⟨(by first | omega | decide | (simp only [rmL, rmA]; omega)), (by first | omega | decide | (simp only [rmL, rmA]; omega))⟩ ?_
          rintro _ _ ⟨rfl, rfl⟩
          refine r_ireturn X dX10_laws_48 rfl (by first | omega | decide | (simp only [rmL, rmA]; omega)) (by first | omega | decide | (simp only [rmL, rmA]; omega)) ?_
          rw [if_neg (by rw [bI_0 h40]; decide)]
          exact ⟨rfl, rfl⟩
      · skip
        omega
