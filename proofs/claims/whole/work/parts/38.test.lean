/-! ===== Plan.readTest ===== -/
def rdTest2 (I : Mem) (a p t : Nat) : Bool × Mem := if I a 4 = 2 then (true, adv (up2 (up2 I (p + 5) t (I a 6)) p 7 (nI (t + 1))) a) else (false, tFail I a 1)
def rdTest1 (I : Mem) (a p t : Nat) (nm : Int32) : Bool × Mem := if I a 4 = 3 ∨ I a 4 = 4 then rdTest2 (adv (up2 (up2 I (p + 4) t nm) (p + 6) t (if I a 4 = 4 then 1 else 0)) a) a p t else (false, tFail I a 1)
def rdTest (I : Mem) (a p t x : Nat) : Bool × Mem :=
  if wName (isW I a) = -1 then (false, tFail I a (if I a 4 = 1 ∧ ¬ (isW I a kw_when = true ∨ isW I a kw_and = true ∨ ¬ wAct (isW I a) = -1) then 2 else 1))
  else if 4 ≤ x ∨ 48 ≤ t then (false, tFail I a 3)
  else rdTest1 (adv I a) a p t (wName (isW I a))
set_option maxHeartbeats 2000000 in
set_option maxRecDepth 20000 in
/-- SledHouse$Plan.readTest -/
theorem c_rdTest {E : Ev} (GE : Glob E) (S : Nat → Option (Nat × Nat)) (I : Nat → Nat → Int32) (V : Nat → Nat → Option Nat) (J : Nat → Nat → Int64) (N : Nat) (p a t x : Nat) (hZ : Strs E) (hP : PlanSh S V p) (hT : TapeSh S V a) (hK : TkOK I a) (ht : I p 7 = nI t) (ht48 : t ≤ 48) (hx : x ≤ 4) (hap : a + 1 < p) : Ct E yX4_readTest cX4_readTest 5 (some .boolean) (rmL 6) [.ref p, .ref a, .int (nI x)] (S, I, V, J, N) (fun v w' => v = some (.int (bI (rdTest I a p t x).1)) ∧ w' = (S, (rdTest I a p t x).2, V, J, N)) := by
  refine Ct.start GE (by decide) rfl (Nat.le_of_ble_eq_true rfl) (fun M X => ?_)
  have X : Cx E M RX4 cX4_readTest 5 (rmL 6) (some .boolean) "readTest" := X
  refine r_loc (L' := [some (.ref p), some (.ref a), some (.int (nI x)), none, none]) rfl ?_
  obtain ⟨hs0, hv0, hv1, hv2, hv3, hv4, hv5, hs1, hs2, hs3, hs4, hs5, hs6⟩ := id hP
  have ts0 := hT.1
  have H1 : ¬ wName (isW I a) = -1 → ¬ (4 ≤ x ∨ 48 ≤ t) → ∀ x4, G E M 0 0 (qQ E M (rmL 6) (fun v w' => v = some (.int (bI (rdTest I a p t x).1)) ∧ w' = (S, (rdTest I a p t x).2, V, J, N))) 89 [some (.ref p), some (.ref a), some (.int (nI x)), some (.int (wName (isW I a))), x4] [] (S, I, V, J, N) := by
    intro g1 g2 x4
    have hK1 := hK.adv
    have e0 : rdTest I a p t x = rdTest1 (adv I a) a p t (wName (isW I a)) := by rw [rdTest, if_neg g1, if_neg g2]
    rw [e0]
    have t1 : adv I a p 7 = nI t := (adv_o (by omega)).trans ht
    have H2 : ∀ y : Int32, (adv I a a 4 = 3 ∨ adv I a a 4 = 4) → y = (if adv I a a 4 = 4 then 1 else 0) → narrow .boolean (.int y) = .int y → G E M 0 0 (qQ E M (rmL 6) (fun v w' => v = some (.int (bI (rdTest1 (adv I a) a p t (wName (isW I a))).1)) ∧ w' = (S, (rdTest1 (adv I a) a p t (wName (isW I a))).2, V, J, N))) 146 [some (.ref p), some (.ref a), some (.int (nI x)), some (.int (wName (isW I a))), x4] [.int y, .int (nI t), .ref (p + 6)] (S, up2 (adv I a) (p + 4) t (wName (isW I a)), V, J, N) := by
      intro y g3 hy hnar
      have e1 : rdTest1 (adv I a) a p t (wName (isW I a)) = rdTest2 (adv (up2 (up2 (adv I a) (p + 4) t (wName (isW I a))) (p + 6) t y) a) a p t := by rw [rdTest1, if_pos g3, ← hy]
      rw [e1]
      have hK2 : TkOK (up2 (up2 (adv I a) (p + 4) t (wName (isW I a))) (p + 6) t y) a := hK1.keep ((up2_a (by omega)).trans (up2_a (by omega))) ((up2_a (by omega)).trans (up2_a (by omega))) ((up2_a (by omega)).trans (up2_a (by omega)))
      have hK3 := hK2.adv
      have t3 : adv (up2 (up2 (adv I a) (p + 4) t (wName (isW I a))) (p + 6) t y) a p 7 = nI t := (adv_o (by omega)).trans ((up2_a (by omega)).trans ((up2_a (by omega)).trans t1))
      have H3 : ∀ I3 : Mem, TkOK I3 a → I3 p 7 = nI t → G E M 0 0 (qQ E M (rmL 6) (fun v w' => v = some (.int (bI (rdTest2 I3 a p t).1)) ∧ w' = (S, (rdTest2 I3 a p t).2, V, J, N))) 151 [some (.ref p), some (.ref a), some (.int (nI x)), some (.int (wName (isW I a))), x4] [] (S, I3, V, J, N) := by
        intro I3 hK3 t3
        have t4 : up2 I3 (p + 5) t (I3 a 6) p 7 = nI t := (up2_a (by omega)).trans t3
        have hK4 : TkOK (up2 (up2 I3 (p + 5) t (I3 a 6)) p 7 (nI (t + 1))) a := hK3.keep ((up2_a (by omega)).trans (up2_a (by omega))) ((up2_a (by omega)).trans (up2_a (by omega))) ((up2_a (by omega)).trans (up2_a (by omega)))
        refine r_aload_n X dX4_readTest_151 rfl rfl ?_
        refine r_getI X dX4_readTest_152 fX4_42 (by assumption) (by first | assumption | rfl) ?_
        refine r_iconst (v := 2) X dX4_readTest_155 (by decide) ?_
        refine r_icmp_eq (tgt := 165) X dX4_readTest_156 (by decide) (fun h156 => ?_) (fun h156 => ?_)
        · skip
          refine r_aload_n X dX4_readTest_165 rfl rfl ?_
          refine r_getR X dX4_readTest_166 fX4_24 (by assumption) (by assumption) ?_
          refine r_aload_n X dX4_readTest_169 rfl rfl ?_
          refine r_getI X dX4_readTest_170 fX4_35 (by assumption) t3 ?_
          refine r_aload_n X dX4_readTest_173 rfl rfl ?_
          refine r_getI X dX4_readTest_174 fX4_80 (by assumption) (by first | assumption | rfl) ?_
          refine r_iastN X dX4_readTest_177 (by assumption) (by omega) (by omega) ?_
          refine r_aload_n X dX4_readTest_178 rfl rfl ?_
          refine r_dup X dX4_readTest_179 rfl ?_
          refine r_getI X dX4_readTest_180 fX4_35 (by assumption) t4 ?_
          refine r_iconst (v := 1) X dX4_readTest_183 (by decide) ?_
          refine r_iadd X dX4_readTest_184 ?_
          refine r_topi (nI (t + 1)) (nI_1 _) ?_
          refine r_putI X dX4_readTest_185 fX4_35 wX4_35 (by assumption) rfl rfl ?_
          refine r_aload_n X dX4_readTest_188 rfl rfl ?_
          refine q_callV X dX4_readTest_189 mX4_68 cwX7_advance (c_advK GE S _ V J N a hT hK4) rfl (by assumption) rfl rfl rfl (Nat.le_of_ble_eq_true rfl) ⟨Nat.le_of_ble_eq_true rfl, Nat.le_of_ble_eq_true rfl⟩ ⟨(by first | omega | decide | (simp only [rmL, rmA]; omega)), (by first | omega | decide | (simp only [rmL, rmA]; omega))⟩ ?_
          rintro _ _ ⟨rfl, rfl⟩
          refine r_iconst (v := 1) X dX4_readTest_192 (by decide) ?_
          refine r_ireturn X dX4_readTest_193 rfl (by first | omega | decide | (simp only [rmL, rmA]; omega)) (by first | omega | decide | (simp only [rmL, rmA]; omega)) ?_
          rw [rdTest2, if_pos h156]
          exact ⟨rfl, rfl⟩
        · skip
          refine r_aload_n X dX4_readTest_159 rfl rfl ?_
          refine r_iconst (v := 1) X dX4_readTest_160 (by decide) ?_
          refine q_callV X dX4_readTest_161 mX4_51 cwX7_fail (c_tFail GE S _ V J N a _ hT) rfl (by assumption) rfl rfl rfl (Nat.le_of_ble_eq_true rfl) ⟨Nat.le_of_ble_eq_true rfl, Nat.le_of_ble_eq_true rfl⟩ ⟨(by first | omega | decide | (simp only [rmL, rmA]; omega)), (by first | omega | decide | (simp only [rmL, rmA]; omega))⟩ ?_
          rintro _ _ ⟨rfl, rfl⟩
          refine r_ireturn X dX4_readTest_164 rfl (by first | omega | decide | (simp only [rmL, rmA]; omega)) (by first | omega | decide | (simp only [rmL, rmA]; omega)) ?_
          rw [rdTest2, if_neg h156]
          exact ⟨rfl, rfl⟩
      refine r_zastN X dX4_readTest_146 (by assumption) (by omega) (by omega) hnar ?_
      refine r_aload_n X dX4_readTest_147 rfl rfl ?_
      refine q_callV X dX4_readTest_148 mX4_68 cwX7_advance (c_advK GE S _ V J N a hT hK2) rfl (by assumption) rfl rfl rfl (Nat.le_of_ble_eq_true rfl) ⟨Nat.le_of_ble_eq_true rfl, Nat.le_of_ble_eq_true rfl⟩ ⟨(by first | omega | decide | (simp only [rmL, rmA]; omega)), (by first | omega | decide | (simp only [rmL, rmA]; omega))⟩ ?_
      rintro _ _ ⟨rfl, rfl⟩
      exact H3 _ hK3 t3
    refine r_aload_n X dX4_readTest_89 rfl rfl ?_
    refine q_callV X dX4_readTest_90 mX4_68 cwX7_advance (c_advK GE S _ V J N a hT hK) rfl (by assumption) rfl rfl rfl (Nat.le_of_ble_eq_true rfl) ⟨Nat.le_of_ble_eq_true rfl, Nat.le_of_ble_eq_true rfl⟩ ⟨(by first | omega | decide | (simp only [rmL, rmA]; omega)), (by first | omega | decide | (simp only [rmL, rmA]; omega))⟩ ?_
    rintro _ _ ⟨rfl, rfl⟩
    refine r_aload_n X dX4_readTest_93 rfl rfl ?_
    refine r_getI X dX4_readTest_94 fX4_42 (by assumption) (by first | assumption | rfl) ?_
    refine r_iconst (v := 3) X dX4_readTest_97 (by decide) ?_
    refine r_icmp_eq (tgt := 115) X dX4_readTest_98 (by decide) (fun h98 => ?_) (fun h98 => ?_)
    · skip
      refine r_aload_n X dX4_readTest_115 rfl rfl ?_
      refine r_getR X dX4_readTest_116 fX4_21 (by assumption) (by assumption) ?_
      refine r_aload_n X dX4_readTest_119 rfl rfl ?_
      refine r_getI X dX4_readTest_120 fX4_35 (by assumption) t1 ?_
      refine r_iload_n X dX4_readTest_123 rfl rfl ?_
      refine r_iastN X dX4_readTest_124 (by assumption) (by omega) (by omega) ?_
      refine r_aload_n X dX4_readTest_125 rfl rfl ?_
      refine r_getR X dX4_readTest_126 fX4_27 (by assumption) (by assumption) ?_
      refine r_aload_n X dX4_readTest_129 rfl rfl ?_
      refine r_getI X dX4_readTest_130 fX4_35 (by assumption) ((up2_a (by omega)).trans t1) ?_
      refine r_aload_n X dX4_readTest_133 rfl rfl ?_
      refine r_getI X dX4_readTest_134 fX4_42 (by assumption) (up2_a (by omega)) ?_
      refine r_iconst (v := 4) X dX4_readTest_137 (by decide) ?_
      refine r_icmp_ne (tgt := 145) X dX4_readTest_138 (by decide) (fun h138 => ?_) (fun h138 => ?_)
      · skip
        refine r_iconst (v := 0) X dX4_readTest_145 (by decide) ?_
        first
          | exact H2 1 (by first | exact Or.inl (by assumption) | exact Or.inr (by assumption)) (by rw [if_pos h138]) rfl
          | exact H2 0 (by first | exact Or.inl (by assumption) | exact Or.inr (by assumption)) (by rw [if_neg h138]) rfl
      · skip
        refine r_iconst (v := 1) X dX4_readTest_141 (by decide) ?_
        refine r_goto (tgt := 146) X dX4_readTest_142 (by decide) ?_
        first
          | exact H2 1 (by first | exact Or.inl (by assumption) | exact Or.inr (by assumption)) (by rw [if_pos h138]) rfl
          | exact H2 0 (by first | exact Or.inl (by assumption) | exact Or.inr (by assumption)) (by rw [if_neg h138]) rfl
    · skip
      refine r_aload_n X dX4_readTest_101 rfl rfl ?_
      refine r_getI X dX4_readTest_102 fX4_42 (by assumption) (by first | assumption | rfl) ?_
      refine r_iconst (v := 4) X dX4_readTest_105 (by decide) ?_
      refine r_icmp_eq (tgt := 115) X dX4_readTest_106 (by decide) (fun h106 => ?_) (fun h106 => ?_)
      · skip
        refine r_aload_n X dX4_readTest_115 rfl rfl ?_
        refine r_getR X dX4_readTest_116 fX4_21 (by assumption) (by assumption) ?_
        refine r_aload_n X dX4_readTest_119 rfl rfl ?_
        refine r_getI X dX4_readTest_120 fX4_35 (by assumption) t1 ?_
        refine r_iload_n X dX4_readTest_123 rfl rfl ?_
        refine r_iastN X dX4_readTest_124 (by assumption) (by omega) (by omega) ?_
        refine r_aload_n X dX4_readTest_125 rfl rfl ?_
        refine r_getR X dX4_readTest_126 fX4_27 (by assumption) (by assumption) ?_
        refine r_aload_n X dX4_readTest_129 rfl rfl ?_
        refine r_getI X dX4_readTest_130 fX4_35 (by assumption) ((up2_a (by omega)).trans t1) ?_
        refine r_aload_n X dX4_readTest_133 rfl rfl ?_
        refine r_getI X dX4_readTest_134 fX4_42 (by assumption) (up2_a (by omega)) ?_
        refine r_iconst (v := 4) X dX4_readTest_137 (by decide) ?_
        refine r_icmp_ne (tgt := 145) X dX4_readTest_138 (by decide) (fun h138 => ?_) (fun h138 => ?_)
        · skip
          refine r_iconst (v := 0) X dX4_readTest_145 (by decide) ?_
          first
            | exact H2 1 (by first | exact Or.inl (by assumption) | exact Or.inr (by assumption)) (by rw [if_pos h138]) rfl
            | exact H2 0 (by first | exact Or.inl (by assumption) | exact Or.inr (by assumption)) (by rw [if_neg h138]) rfl
        · skip
          refine r_iconst (v := 1) X dX4_readTest_141 (by decide) ?_
          refine r_goto (tgt := 146) X dX4_readTest_142 (by decide) ?_
          first
            | exact H2 1 (by first | exact Or.inl (by assumption) | exact Or.inr (by assumption)) (by rw [if_pos h138]) rfl
            | exact H2 0 (by first | exact Or.inl (by assumption) | exact Or.inr (by assumption)) (by rw [if_neg h138]) rfl
      · skip
        refine r_aload_n X dX4_readTest_109 rfl rfl ?_
        refine r_iconst (v := 1) X dX4_readTest_110 (by decide) ?_
        refine q_callV X dX4_readTest_111 mX4_51 cwX7_fail (c_tFail GE S _ V J N a _ hT) rfl (by assumption) rfl rfl rfl (Nat.le_of_ble_eq_true rfl) ⟨Nat.le_of_ble_eq_true rfl, Nat.le_of_ble_eq_true rfl⟩ ⟨(by first | omega | decide | (simp only [rmL, rmA]; omega)), (by first | omega | decide | (simp only [rmL, rmA]; omega))⟩ ?_
        rintro _ _ ⟨rfl, rfl⟩
        refine r_ireturn X dX4_readTest_114 rfl (by first | omega | decide | (simp only [rmL, rmA]; omega)) (by first | omega | decide | (simp only [rmL, rmA]; omega)) ?_
        rw [rdTest1, if_neg (fun q => q.elim h98 h106)]
        exact ⟨rfl, rfl⟩
  refine r_aload_n X dX4_readTest_0 rfl rfl ?_
  refine q_callS X dX4_readTest_1 mX4_77 cwX4_nameOf (c_nameOf GE S I V J N a hZ hT hK) rfl rfl (Nat.le_of_ble_eq_true rfl) ⟨Nat.le_of_ble_eq_true rfl, Nat.le_of_ble_eq_true rfl⟩ ⟨(by first | omega | decide | (simp only [rmL, rmA]; omega)), (by first | omega | decide | (simp only [rmL, rmA]; omega))⟩ ?_
  rintro _ _ ⟨rfl, rfl⟩
  refine r_istore_n X dX4_readTest_4 rfl (by decide) rfl ?_
  refine r_iload_n X dX4_readTest_5 rfl rfl ?_
  refine r_iconst (v := -1) X dX4_readTest_6 (by decide) ?_
  refine r_icmp_ne (tgt := 66) X dX4_readTest_7 (by decide) (fun h7 => ?_) (fun h7 => ?_)
  · skip
    refine r_iload_n X dX4_readTest_66 rfl rfl ?_
    refine r_iconst (v := nI 4) X dX4_readTest_67 (by decide) ?_
    refine r_icmpN_ge (tgt := 83) X dX4_readTest_68 (by decide) (by omega) (by omega) (fun h68 => ?_) (fun h68 => ?_)
    · skip
      refine r_aload_n X dX4_readTest_83 rfl rfl ?_
      refine r_iconst (v := 3) X dX4_readTest_84 (by decide) ?_
      refine q_callV X dX4_readTest_85 mX4_51 cwX7_fail (c_tFail GE S I V J N a _ hT) rfl (by assumption) rfl rfl rfl (Nat.le_of_ble_eq_true rfl) ⟨Nat.le_of_ble_eq_true rfl, Nat.le_of_ble_eq_true rfl⟩ ⟨(by first | omega | decide | (simp only [rmL, rmA]; omega)), (by first | omega | decide | (simp only [rmL, rmA]; omega))⟩ ?_
      rintro _ _ ⟨rfl, rfl⟩
      refine r_ireturn X dX4_readTest_88 rfl (by first | omega | decide | (simp only [rmL, rmA]; omega)) (by first | omega | decide | (simp only [rmL, rmA]; omega)) ?_
      rw [rdTest, if_neg h7, if_pos (by omega)]
      exact ⟨rfl, rfl⟩
    · skip
      refine r_aload_n X dX4_readTest_71 rfl rfl ?_
      refine r_getI X dX4_readTest_72 fX4_35 (by assumption) (by first | assumption | rfl) ?_
      refine r_aload_n X dX4_readTest_75 rfl rfl ?_
      refine r_getR X dX4_readTest_76 fX4_21 (by assumption) (by assumption) ?_
      refine r_alen X dX4_readTest_79 (by assumption) (by decide) rfl ?_
      refine r_icmpN_lt (tgt := 89) X dX4_readTest_80 (by decide) (by omega) (by omega) (fun h80 => ?_) (fun h80 => ?_)
      · skip
        exact H1 h7 (by omega) _
      · skip
        refine r_aload_n X dX4_readTest_83 rfl rfl ?_
        refine r_iconst (v := 3) X dX4_readTest_84 (by decide) ?_
        refine q_callV X dX4_readTest_85 mX4_51 cwX7_fail (c_tFail GE S I V J N a _ hT) rfl (by assumption) rfl rfl rfl (Nat.le_of_ble_eq_true rfl) ⟨Nat.le_of_ble_eq_true rfl, Nat.le_of_ble_eq_true rfl⟩ ⟨(by first | omega | decide | (simp only [rmL, rmA]; omega)), (by first | omega | decide | (simp only [rmL, rmA]; omega))⟩ ?_
        rintro _ _ ⟨rfl, rfl⟩
        refine r_ireturn X dX4_readTest_88 rfl (by first | omega | decide | (simp only [rmL, rmA]; omega)) (by first | omega | decide | (simp only [rmL, rmA]; omega)) ?_
        rw [rdTest, if_neg h7, if_pos (by omega)]
        exact ⟨rfl, rfl⟩
  · skip
    refine r_aload_n X dX4_readTest_10 rfl rfl ?_
    refine r_ldcS X dX4_readTest_11 (sX4_55 hZ) (fun u11 hu11 => ?_)
    refine q_callV X dX4_readTest_13 mX4_57 cwX7_isWord (c_isW GE S I V J N a _ kw_when hZ hT hK (by assumption)) rfl (by assumption) rfl rfl rfl (Nat.le_of_ble_eq_true rfl) ⟨Nat.le_of_ble_eq_true rfl, Nat.le_of_ble_eq_true rfl⟩ ⟨(by first | omega | decide | (simp only [rmL, rmA]; omega)), (by first | omega | decide | (simp only [rmL, rmA]; omega))⟩ ?_
    rintro _ _ ⟨rfl, rfl⟩
    refine r_if_ne (tgt := 36) X dX4_readTest_16 (by decide) (fun h16 => ?_) (fun h16 => ?_)
    · skip
      refine r_iconst (v := 1) X dX4_readTest_36 (by decide) ?_
      refine r_goto (tgt := 41) X dX4_readTest_37 (by decide) ?_
      refine r_istore X dX4_readTest_41 (by decide) rfl ?_
      refine r_aload_n X dX4_readTest_43 rfl rfl ?_
      refine r_aload_n X dX4_readTest_44 rfl rfl ?_
      refine r_getI X dX4_readTest_45 fX4_42 (by assumption) (by first | assumption | rfl) ?_
      refine r_iconst (v := 1) X dX4_readTest_48 (by decide) ?_
      refine r_icmp_ne (tgt := 61) X dX4_readTest_49 (by decide) (fun h49 => ?_) (fun h49 => ?_)
      · skip
        refine r_iconst (v := 1) X dX4_readTest_61 (by decide) ?_
        refine q_callV X dX4_readTest_62 mX4_51 cwX7_fail (c_tFail GE S I V J N a _ hT) rfl (by assumption) rfl rfl rfl (Nat.le_of_ble_eq_true rfl) ⟨Nat.le_of_ble_eq_true rfl, Nat.le_of_ble_eq_true rfl⟩ ⟨(by first | omega | decide | (simp only [rmL, rmA]; omega)), (by first | omega | decide | (simp only [rmL, rmA]; omega))⟩ ?_
        rintro _ _ ⟨rfl, rfl⟩
        refine r_ireturn X dX4_readTest_65 rfl (by first | omega | decide | (simp only [rmL, rmA]; omega)) (by first | omega | decide | (simp only [rmL, rmA]; omega)) ?_
        first
          | (exact absurd rfl h54; done)
          | (exact absurd h54 (by decide); done)
          | (have e : rdTest I a p t x = (false, tFail I a 2) := by
               rw [rdTest, if_pos h7, if_pos ⟨h49, by
                 rintro (z | z | z)
                 · rw [bI_0 h16] at z; exact absurd z (by decide)
                 · rw [bI_0 h25] at z; exact absurd z (by decide)
                 · exact z h33⟩]
             rw [e]; exact ⟨rfl, rfl⟩)
          | (have e : rdTest I a p t x = (false, tFail I a 1) := by rw [rdTest, if_pos h7, if_neg (fun q => h49 q.1)]
             rw [e]; exact ⟨rfl, rfl⟩)
          | (have e : rdTest I a p t x = (false, tFail I a 1) := by rw [rdTest, if_pos h7, if_neg (fun q => q.2 (Or.inr (Or.inr h33)))]
             rw [e]; exact ⟨rfl, rfl⟩)
          | (have e : rdTest I a p t x = (false, tFail I a 1) := by rw [rdTest, if_pos h7, if_neg (fun q => q.2 (Or.inr (Or.inl (bI_1 h25))))]
             rw [e]; exact ⟨rfl, rfl⟩)
          | (have e : rdTest I a p t x = (false, tFail I a 1) := by rw [rdTest, if_pos h7, if_neg (fun q => q.2 (Or.inl (bI_1 h16)))]
             rw [e]; exact ⟨rfl, rfl⟩)
      · skip
        refine r_iload X dX4_readTest_52 rfl ?_
        refine r_if_ne (tgt := 61) X dX4_readTest_54 (by decide) (fun h54 => ?_) (fun h54 => ?_)
        · skip
          refine r_iconst (v := 1) X dX4_readTest_61 (by decide) ?_
          refine q_callV X dX4_readTest_62 mX4_51 cwX7_fail (c_tFail GE S I V J N a _ hT) rfl (by assumption) rfl rfl rfl (Nat.le_of_ble_eq_true rfl) ⟨Nat.le_of_ble_eq_true rfl, Nat.le_of_ble_eq_true rfl⟩ ⟨(by first | omega | decide | (simp only [rmL, rmA]; omega)), (by first | omega | decide | (simp only [rmL, rmA]; omega))⟩ ?_
          rintro _ _ ⟨rfl, rfl⟩
          refine r_ireturn X dX4_readTest_65 rfl (by first | omega | decide | (simp only [rmL, rmA]; omega)) (by first | omega | decide | (simp only [rmL, rmA]; omega)) ?_
          first
            | (exact absurd rfl h54; done)
            | (exact absurd h54 (by decide); done)
            | (have e : rdTest I a p t x = (false, tFail I a 2) := by
                 rw [rdTest, if_pos h7, if_pos ⟨h49, by
                   rintro (z | z | z)
                   · rw [bI_0 h16] at z; exact absurd z (by decide)
                   · rw [bI_0 h25] at z; exact absurd z (by decide)
                   · exact z h33⟩]
               rw [e]; exact ⟨rfl, rfl⟩)
            | (have e : rdTest I a p t x = (false, tFail I a 1) := by rw [rdTest, if_pos h7, if_neg (fun q => h49 q.1)]
               rw [e]; exact ⟨rfl, rfl⟩)
            | (have e : rdTest I a p t x = (false, tFail I a 1) := by rw [rdTest, if_pos h7, if_neg (fun q => q.2 (Or.inr (Or.inr h33)))]
               rw [e]; exact ⟨rfl, rfl⟩)
            | (have e : rdTest I a p t x = (false, tFail I a 1) := by rw [rdTest, if_pos h7, if_neg (fun q => q.2 (Or.inr (Or.inl (bI_1 h25))))]
               rw [e]; exact ⟨rfl, rfl⟩)
            | (have e : rdTest I a p t x = (false, tFail I a 1) := by rw [rdTest, if_pos h7, if_neg (fun q => q.2 (Or.inl (bI_1 h16)))]
               rw [e]; exact ⟨rfl, rfl⟩)
        · skip
          refine r_iconst (v := 2) X dX4_readTest_57 (by decide) ?_
          refine r_goto (tgt := 62) X dX4_readTest_58 (by decide) ?_
          refine q_callV X dX4_readTest_62 mX4_51 cwX7_fail (c_tFail GE S I V J N a _ hT) rfl (by assumption) rfl rfl rfl (Nat.le_of_ble_eq_true rfl) ⟨Nat.le_of_ble_eq_true rfl, Nat.le_of_ble_eq_true rfl⟩ ⟨(by first | omega | decide | (simp only [rmL, rmA]; omega)), (by first | omega | decide | (simp only [rmL, rmA]; omega))⟩ ?_
          rintro _ _ ⟨rfl, rfl⟩
          refine r_ireturn X dX4_readTest_65 rfl (by first | omega | decide | (simp only [rmL, rmA]; omega)) (by first | omega | decide | (simp only [rmL, rmA]; omega)) ?_
          first
            | (exact absurd rfl h54; done)
            | (exact absurd h54 (by decide); done)
            | (have e : rdTest I a p t x = (false, tFail I a 2) := by
                 rw [rdTest, if_pos h7, if_pos ⟨h49, by
                   rintro (z | z | z)
                   · rw [bI_0 h16] at z; exact absurd z (by decide)
                   · rw [bI_0 h25] at z; exact absurd z (by decide)
                   · exact z h33⟩]
               rw [e]; exact ⟨rfl, rfl⟩)
            | (have e : rdTest I a p t x = (false, tFail I a 1) := by rw [rdTest, if_pos h7, if_neg (fun q => h49 q.1)]
               rw [e]; exact ⟨rfl, rfl⟩)
            | (have e : rdTest I a p t x = (false, tFail I a 1) := by rw [rdTest, if_pos h7, if_neg (fun q => q.2 (Or.inr (Or.inr h33)))]
               rw [e]; exact ⟨rfl, rfl⟩)
            | (have e : rdTest I a p t x = (false, tFail I a 1) := by rw [rdTest, if_pos h7, if_neg (fun q => q.2 (Or.inr (Or.inl (bI_1 h25))))]
               rw [e]; exact ⟨rfl, rfl⟩)
            | (have e : rdTest I a p t x = (false, tFail I a 1) := by rw [rdTest, if_pos h7, if_neg (fun q => q.2 (Or.inl (bI_1 h16)))]
               rw [e]; exact ⟨rfl, rfl⟩)
    · skip
      refine r_aload_n X dX4_readTest_19 rfl rfl ?_
      refine r_ldcS X dX4_readTest_20 (sX4_75 hZ) (fun u20 hu20 => ?_)
      refine q_callV X dX4_readTest_22 mX4_57 cwX7_isWord (c_isW GE S I V J N a _ kw_and hZ hT hK (by assumption)) rfl (by assumption) rfl rfl rfl (Nat.le_of_ble_eq_true rfl) ⟨Nat.le_of_ble_eq_true rfl, Nat.le_of_ble_eq_true rfl⟩ ⟨(by first | omega | decide | (simp only [rmL, rmA]; omega)), (by first | omega | decide | (simp only [rmL, rmA]; omega))⟩ ?_
      rintro _ _ ⟨rfl, rfl⟩
      refine r_if_ne (tgt := 36) X dX4_readTest_25 (by decide) (fun h25 => ?_) (fun h25 => ?_)
      · skip
        refine r_iconst (v := 1) X dX4_readTest_36 (by decide) ?_
        refine r_goto (tgt := 41) X dX4_readTest_37 (by decide) ?_
        refine r_istore X dX4_readTest_41 (by decide) rfl ?_
        refine r_aload_n X dX4_readTest_43 rfl rfl ?_
        refine r_aload_n X dX4_readTest_44 rfl rfl ?_
        refine r_getI X dX4_readTest_45 fX4_42 (by assumption) (by first | assumption | rfl) ?_
        refine r_iconst (v := 1) X dX4_readTest_48 (by decide) ?_
        refine r_icmp_ne (tgt := 61) X dX4_readTest_49 (by decide) (fun h49 => ?_) (fun h49 => ?_)
        · skip
          refine r_iconst (v := 1) X dX4_readTest_61 (by decide) ?_
          refine q_callV X dX4_readTest_62 mX4_51 cwX7_fail (c_tFail GE S I V J N a _ hT) rfl (by assumption) rfl rfl rfl (Nat.le_of_ble_eq_true rfl) ⟨Nat.le_of_ble_eq_true rfl, Nat.le_of_ble_eq_true rfl⟩ ⟨(by first | omega | decide | (simp only [rmL, rmA]; omega)), (by first | omega | decide | (simp only [rmL, rmA]; omega))⟩ ?_
          rintro _ _ ⟨rfl, rfl⟩
          refine r_ireturn X dX4_readTest_65 rfl (by first | omega | decide | (simp only [rmL, rmA]; omega)) (by first | omega | decide | (simp only [rmL, rmA]; omega)) ?_
          first
            | (exact absurd rfl h54; done)
            | (exact absurd h54 (by decide); done)
            | (have e : rdTest I a p t x = (false, tFail I a 2) := by
                 rw [rdTest, if_pos h7, if_pos ⟨h49, by
                   rintro (z | z | z)
                   · rw [bI_0 h16] at z; exact absurd z (by decide)
                   · rw [bI_0 h25] at z; exact absurd z (by decide)
                   · exact z h33⟩]
               rw [e]; exact ⟨rfl, rfl⟩)
            | (have e : rdTest I a p t x = (false, tFail I a 1) := by rw [rdTest, if_pos h7, if_neg (fun q => h49 q.1)]
               rw [e]; exact ⟨rfl, rfl⟩)
            | (have e : rdTest I a p t x = (false, tFail I a 1) := by rw [rdTest, if_pos h7, if_neg (fun q => q.2 (Or.inr (Or.inr h33)))]
               rw [e]; exact ⟨rfl, rfl⟩)
            | (have e : rdTest I a p t x = (false, tFail I a 1) := by rw [rdTest, if_pos h7, if_neg (fun q => q.2 (Or.inr (Or.inl (bI_1 h25))))]
               rw [e]; exact ⟨rfl, rfl⟩)
            | (have e : rdTest I a p t x = (false, tFail I a 1) := by rw [rdTest, if_pos h7, if_neg (fun q => q.2 (Or.inl (bI_1 h16)))]
               rw [e]; exact ⟨rfl, rfl⟩)
        · skip
          refine r_iload X dX4_readTest_52 rfl ?_
          refine r_if_ne (tgt := 61) X dX4_readTest_54 (by decide) (fun h54 => ?_) (fun h54 => ?_)
          · skip
            refine r_iconst (v := 1) X dX4_readTest_61 (by decide) ?_
            refine q_callV X dX4_readTest_62 mX4_51 cwX7_fail (c_tFail GE S I V J N a _ hT) rfl (by assumption) rfl rfl rfl (Nat.le_of_ble_eq_true rfl) ⟨Nat.le_of_ble_eq_true rfl, Nat.le_of_ble_eq_true rfl⟩ ⟨(by first | omega | decide | (simp only [rmL, rmA]; omega)), (by first | omega | decide | (simp only [rmL, rmA]; omega))⟩ ?_
            rintro _ _ ⟨rfl, rfl⟩
            refine r_ireturn X dX4_readTest_65 rfl (by first | omega | decide | (simp only [rmL, rmA]; omega)) (by first | omega | decide | (simp only [rmL, rmA]; omega)) ?_
            first
              | (exact absurd rfl h54; done)
              | (exact absurd h54 (by decide); done)
              | (have e : rdTest I a p t x = (false, tFail I a 2) := by
                   rw [rdTest, if_pos h7, if_pos ⟨h49, by
                     rintro (z | z | z)
                     · rw [bI_0 h16] at z; exact absurd z (by decide)
                     · rw [bI_0 h25] at z; exact absurd z (by decide)
                     · exact z h33⟩]
                 rw [e]; exact ⟨rfl, rfl⟩)
              | (have e : rdTest I a p t x = (false, tFail I a 1) := by rw [rdTest, if_pos h7, if_neg (fun q => h49 q.1)]
                 rw [e]; exact ⟨rfl, rfl⟩)
              | (have e : rdTest I a p t x = (false, tFail I a 1) := by rw [rdTest, if_pos h7, if_neg (fun q => q.2 (Or.inr (Or.inr h33)))]
                 rw [e]; exact ⟨rfl, rfl⟩)
              | (have e : rdTest I a p t x = (false, tFail I a 1) := by rw [rdTest, if_pos h7, if_neg (fun q => q.2 (Or.inr (Or.inl (bI_1 h25))))]
                 rw [e]; exact ⟨rfl, rfl⟩)
              | (have e : rdTest I a p t x = (false, tFail I a 1) := by rw [rdTest, if_pos h7, if_neg (fun q => q.2 (Or.inl (bI_1 h16)))]
                 rw [e]; exact ⟨rfl, rfl⟩)
          · skip
            refine r_iconst (v := 2) X dX4_readTest_57 (by decide) ?_
            refine r_goto (tgt := 62) X dX4_readTest_58 (by decide) ?_
            refine q_callV X dX4_readTest_62 mX4_51 cwX7_fail (c_tFail GE S I V J N a _ hT) rfl (by assumption) rfl rfl rfl (Nat.le_of_ble_eq_true rfl) ⟨Nat.le_of_ble_eq_true rfl, Nat.le_of_ble_eq_true rfl⟩ ⟨(by first | omega | decide | (simp only [rmL, rmA]; omega)), (by first | omega | decide | (simp only [rmL, rmA]; omega))⟩ ?_
            rintro _ _ ⟨rfl, rfl⟩
            refine r_ireturn X dX4_readTest_65 rfl (by first | omega | decide | (simp only [rmL, rmA]; omega)) (by first | omega | decide | (simp only [rmL, rmA]; omega)) ?_
            first
              | (exact absurd rfl h54; done)
              | (exact absurd h54 (by decide); done)
              | (have e : rdTest I a p t x = (false, tFail I a 2) := by
                   rw [rdTest, if_pos h7, if_pos ⟨h49, by
                     rintro (z | z | z)
                     · rw [bI_0 h16] at z; exact absurd z (by decide)
                     · rw [bI_0 h25] at z; exact absurd z (by decide)
                     · exact z h33⟩]
                 rw [e]; exact ⟨rfl, rfl⟩)
              | (have e : rdTest I a p t x = (false, tFail I a 1) := by rw [rdTest, if_pos h7, if_neg (fun q => h49 q.1)]
                 rw [e]; exact ⟨rfl, rfl⟩)
              | (have e : rdTest I a p t x = (false, tFail I a 1) := by rw [rdTest, if_pos h7, if_neg (fun q => q.2 (Or.inr (Or.inr h33)))]
                 rw [e]; exact ⟨rfl, rfl⟩)
              | (have e : rdTest I a p t x = (false, tFail I a 1) := by rw [rdTest, if_pos h7, if_neg (fun q => q.2 (Or.inr (Or.inl (bI_1 h25))))]
                 rw [e]; exact ⟨rfl, rfl⟩)
              | (have e : rdTest I a p t x = (false, tFail I a 1) := by rw [rdTest, if_pos h7, if_neg (fun q => q.2 (Or.inl (bI_1 h16)))]
                 rw [e]; exact ⟨rfl, rfl⟩)
      · skip
        refine r_aload_n X dX4_readTest_28 rfl rfl ?_
        refine q_callS X dX4_readTest_29 mX4_61 cwX4_actOf (c_actOf GE S I V J N a hZ hT hK) rfl rfl (Nat.le_of_ble_eq_true rfl) ⟨Nat.le_of_ble_eq_true rfl, Nat.le_of_ble_eq_true rfl⟩ ⟨(by first | omega | decide | (simp only [rmL, rmA]; omega)), (by first | omega | decide | (simp only [rmL, rmA]; omega))⟩ ?_
        rintro _ _ ⟨rfl, rfl⟩
        refine r_iconst (v := -1) X dX4_readTest_32 (by decide) ?_
        refine r_icmp_eq (tgt := 40) X dX4_readTest_33 (by decide) (fun h33 => ?_) (fun h33 => ?_)
        · skip
          refine r_iconst (v := nI 0) X dX4_readTest_40 (by decide) ?_
          refine r_istore X dX4_readTest_41 (by decide) rfl ?_
          refine r_aload_n X dX4_readTest_43 rfl rfl ?_
          refine r_aload_n X dX4_readTest_44 rfl rfl ?_
          refine r_getI X dX4_readTest_45 fX4_42 (by assumption) (by first | assumption | rfl) ?_
          refine r_iconst (v := 1) X dX4_readTest_48 (by decide) ?_
          refine r_icmp_ne (tgt := 61) X dX4_readTest_49 (by decide) (fun h49 => ?_) (fun h49 => ?_)
          · skip
            refine r_iconst (v := 1) X dX4_readTest_61 (by decide) ?_
            refine q_callV X dX4_readTest_62 mX4_51 cwX7_fail (c_tFail GE S I V J N a _ hT) rfl (by assumption) rfl rfl rfl (Nat.le_of_ble_eq_true rfl) ⟨Nat.le_of_ble_eq_true rfl, Nat.le_of_ble_eq_true rfl⟩ ⟨(by first | omega | decide | (simp only [rmL, rmA]; omega)), (by first | omega | decide | (simp only [rmL, rmA]; omega))⟩ ?_
            rintro _ _ ⟨rfl, rfl⟩
            refine r_ireturn X dX4_readTest_65 rfl (by first | omega | decide | (simp only [rmL, rmA]; omega)) (by first | omega | decide | (simp only [rmL, rmA]; omega)) ?_
            first
              | (exact absurd rfl h54; done)
              | (exact absurd h54 (by decide); done)
              | (have e : rdTest I a p t x = (false, tFail I a 2) := by
                   rw [rdTest, if_pos h7, if_pos ⟨h49, by
                     rintro (z | z | z)
                     · rw [bI_0 h16] at z; exact absurd z (by decide)
                     · rw [bI_0 h25] at z; exact absurd z (by decide)
                     · exact z h33⟩]
                 rw [e]; exact ⟨rfl, rfl⟩)
              | (have e : rdTest I a p t x = (false, tFail I a 1) := by rw [rdTest, if_pos h7, if_neg (fun q => h49 q.1)]
                 rw [e]; exact ⟨rfl, rfl⟩)
              | (have e : rdTest I a p t x = (false, tFail I a 1) := by rw [rdTest, if_pos h7, if_neg (fun q => q.2 (Or.inr (Or.inr h33)))]
                 rw [e]; exact ⟨rfl, rfl⟩)
              | (have e : rdTest I a p t x = (false, tFail I a 1) := by rw [rdTest, if_pos h7, if_neg (fun q => q.2 (Or.inr (Or.inl (bI_1 h25))))]
                 rw [e]; exact ⟨rfl, rfl⟩)
              | (have e : rdTest I a p t x = (false, tFail I a 1) := by rw [rdTest, if_pos h7, if_neg (fun q => q.2 (Or.inl (bI_1 h16)))]
                 rw [e]; exact ⟨rfl, rfl⟩)
          · skip
            refine r_iload X dX4_readTest_52 rfl ?_
            refine r_if_ne (tgt := 61) X dX4_readTest_54 (by decide) (fun h54 => ?_) (fun h54 => ?_)
            · skip
              refine r_iconst (v := 1) X dX4_readTest_61 (by decide) ?_
              refine q_callV X dX4_readTest_62 mX4_51 cwX7_fail (c_tFail GE S I V J N a _ hT) rfl (by assumption) rfl rfl rfl (Nat.le_of_ble_eq_true rfl) ⟨Nat.le_of_ble_eq_true rfl, Nat.le_of_ble_eq_true rfl⟩ ⟨(by first | omega | decide | (simp only [rmL, rmA]; omega)), (by first | omega | decide | (simp only [rmL, rmA]; omega))⟩ ?_
              rintro _ _ ⟨rfl, rfl⟩
              refine r_ireturn X dX4_readTest_65 rfl (by first | omega | decide | (simp only [rmL, rmA]; omega)) (by first | omega | decide | (simp only [rmL, rmA]; omega)) ?_
              first
                | (exact absurd rfl h54; done)
                | (exact absurd h54 (by decide); done)
                | (have e : rdTest I a p t x = (false, tFail I a 2) := by
                     rw [rdTest, if_pos h7, if_pos ⟨h49, by
                       rintro (z | z | z)
                       · rw [bI_0 h16] at z; exact absurd z (by decide)
                       · rw [bI_0 h25] at z; exact absurd z (by decide)
                       · exact z h33⟩]
                   rw [e]; exact ⟨rfl, rfl⟩)
                | (have e : rdTest I a p t x = (false, tFail I a 1) := by rw [rdTest, if_pos h7, if_neg (fun q => h49 q.1)]
                   rw [e]; exact ⟨rfl, rfl⟩)
                | (have e : rdTest I a p t x = (false, tFail I a 1) := by rw [rdTest, if_pos h7, if_neg (fun q => q.2 (Or.inr (Or.inr h33)))]
                   rw [e]; exact ⟨rfl, rfl⟩)
                | (have e : rdTest I a p t x = (false, tFail I a 1) := by rw [rdTest, if_pos h7, if_neg (fun q => q.2 (Or.inr (Or.inl (bI_1 h25))))]
                   rw [e]; exact ⟨rfl, rfl⟩)
                | (have e : rdTest I a p t x = (false, tFail I a 1) := by rw [rdTest, if_pos h7, if_neg (fun q => q.2 (Or.inl (bI_1 h16)))]
                   rw [e]; exact ⟨rfl, rfl⟩)
            · skip
              refine r_iconst (v := 2) X dX4_readTest_57 (by decide) ?_
              refine r_goto (tgt := 62) X dX4_readTest_58 (by decide) ?_
              refine q_callV X dX4_readTest_62 mX4_51 cwX7_fail (c_tFail GE S I V J N a _ hT) rfl (by assumption) rfl rfl rfl (Nat.le_of_ble_eq_true rfl) ⟨Nat.le_of_ble_eq_true rfl, Nat.le_of_ble_eq_true rfl⟩ ⟨(by first | omega | decide | (simp only [rmL, rmA]; omega)), (by first | omega | decide | (simp only [rmL, rmA]; omega))⟩ ?_
              rintro _ _ ⟨rfl, rfl⟩
              refine r_ireturn X dX4_readTest_65 rfl (by first | omega | decide | (simp only [rmL, rmA]; omega)) (by first | omega | decide | (simp only [rmL, rmA]; omega)) ?_
              first
                | (exact absurd rfl h54; done)
                | (exact absurd h54 (by decide); done)
                | (have e : rdTest I a p t x = (false, tFail I a 2) := by
                     rw [rdTest, if_pos h7, if_pos ⟨h49, by
                       rintro (z | z | z)
                       · rw [bI_0 h16] at z; exact absurd z (by decide)
                       · rw [bI_0 h25] at z; exact absurd z (by decide)
                       · exact z h33⟩]
                   rw [e]; exact ⟨rfl, rfl⟩)
                | (have e : rdTest I a p t x = (false, tFail I a 1) := by rw [rdTest, if_pos h7, if_neg (fun q => h49 q.1)]
                   rw [e]; exact ⟨rfl, rfl⟩)
                | (have e : rdTest I a p t x = (false, tFail I a 1) := by rw [rdTest, if_pos h7, if_neg (fun q => q.2 (Or.inr (Or.inr h33)))]
                   rw [e]; exact ⟨rfl, rfl⟩)
                | (have e : rdTest I a p t x = (false, tFail I a 1) := by rw [rdTest, if_pos h7, if_neg (fun q => q.2 (Or.inr (Or.inl (bI_1 h25))))]
                   rw [e]; exact ⟨rfl, rfl⟩)
                | (have e : rdTest I a p t x = (false, tFail I a 1) := by rw [rdTest, if_pos h7, if_neg (fun q => q.2 (Or.inl (bI_1 h16)))]
                   rw [e]; exact ⟨rfl, rfl⟩)
        · skip
          refine r_iconst (v := 1) X dX4_readTest_36 (by decide) ?_
          refine r_goto (tgt := 41) X dX4_readTest_37 (by decide) ?_
          refine r_istore X dX4_readTest_41 (by decide) rfl ?_
          refine r_aload_n X dX4_readTest_43 rfl rfl ?_
          refine r_aload_n X dX4_readTest_44 rfl rfl ?_
          refine r_getI X dX4_readTest_45 fX4_42 (by assumption) (by first | assumption | rfl) ?_
          refine r_iconst (v := 1) X dX4_readTest_48 (by decide) ?_
          refine r_icmp_ne (tgt := 61) X dX4_readTest_49 (by decide) (fun h49 => ?_) (fun h49 => ?_)
          · skip
            refine r_iconst (v := 1) X dX4_readTest_61 (by decide) ?_
            refine q_callV X dX4_readTest_62 mX4_51 cwX7_fail (c_tFail GE S I V J N a _ hT) rfl (by assumption) rfl rfl rfl (Nat.le_of_ble_eq_true rfl) ⟨Nat.le_of_ble_eq_true rfl, Nat.le_of_ble_eq_true rfl⟩ ⟨(by first | omega | decide | (simp only [rmL, rmA]; omega)), (by first | omega | decide | (simp only [rmL, rmA]; omega))⟩ ?_
            rintro _ _ ⟨rfl, rfl⟩
            refine r_ireturn X dX4_readTest_65 rfl (by first | omega | decide | (simp only [rmL, rmA]; omega)) (by first | omega | decide | (simp only [rmL, rmA]; omega)) ?_
            first
              | (exact absurd rfl h54; done)
              | (exact absurd h54 (by decide); done)
              | (have e : rdTest I a p t x = (false, tFail I a 2) := by
                   rw [rdTest, if_pos h7, if_pos ⟨h49, by
                     rintro (z | z | z)
                     · rw [bI_0 h16] at z; exact absurd z (by decide)
                     · rw [bI_0 h25] at z; exact absurd z (by decide)
                     · exact z h33⟩]
                 rw [e]; exact ⟨rfl, rfl⟩)
              | (have e : rdTest I a p t x = (false, tFail I a 1) := by rw [rdTest, if_pos h7, if_neg (fun q => h49 q.1)]
                 rw [e]; exact ⟨rfl, rfl⟩)
              | (have e : rdTest I a p t x = (false, tFail I a 1) := by rw [rdTest, if_pos h7, if_neg (fun q => q.2 (Or.inr (Or.inr h33)))]
                 rw [e]; exact ⟨rfl, rfl⟩)
              | (have e : rdTest I a p t x = (false, tFail I a 1) := by rw [rdTest, if_pos h7, if_neg (fun q => q.2 (Or.inr (Or.inl (bI_1 h25))))]
                 rw [e]; exact ⟨rfl, rfl⟩)
              | (have e : rdTest I a p t x = (false, tFail I a 1) := by rw [rdTest, if_pos h7, if_neg (fun q => q.2 (Or.inl (bI_1 h16)))]
                 rw [e]; exact ⟨rfl, rfl⟩)
          · skip
            refine r_iload X dX4_readTest_52 rfl ?_
            refine r_if_ne (tgt := 61) X dX4_readTest_54 (by decide) (fun h54 => ?_) (fun h54 => ?_)
            · skip
              refine r_iconst (v := 1) X dX4_readTest_61 (by decide) ?_
              refine q_callV X dX4_readTest_62 mX4_51 cwX7_fail (c_tFail GE S I V J N a _ hT) rfl (by assumption) rfl rfl rfl (Nat.le_of_ble_eq_true rfl) ⟨Nat.le_of_ble_eq_true rfl, Nat.le_of_ble_eq_true rfl⟩ ⟨(by first | omega | decide | (simp only [rmL, rmA]; omega)), (by first | omega | decide | (simp only [rmL, rmA]; omega))⟩ ?_
              rintro _ _ ⟨rfl, rfl⟩
              refine r_ireturn X dX4_readTest_65 rfl (by first | omega | decide | (simp only [rmL, rmA]; omega)) (by first | omega | decide | (simp only [rmL, rmA]; omega)) ?_
              first
                | (exact absurd rfl h54; done)
                | (exact absurd h54 (by decide); done)
                | (have e : rdTest I a p t x = (false, tFail I a 2) := by
                     rw [rdTest, if_pos h7, if_pos ⟨h49, by
                       rintro (z | z | z)
                       · rw [bI_0 h16] at z; exact absurd z (by decide)
                       · rw [bI_0 h25] at z; exact absurd z (by decide)
                       · exact z h33⟩]
                   rw [e]; exact ⟨rfl, rfl⟩)
                | (have e : rdTest I a p t x = (false, tFail I a 1) := by rw [rdTest, if_pos h7, if_neg (fun q => h49 q.1)]
                   rw [e]; exact ⟨rfl, rfl⟩)
                | (have e : rdTest I a p t x = (false, tFail I a 1) := by rw [rdTest, if_pos h7, if_neg (fun q => q.2 (Or.inr (Or.inr h33)))]
                   rw [e]; exact ⟨rfl, rfl⟩)
                | (have e : rdTest I a p t x = (false, tFail I a 1) := by rw [rdTest, if_pos h7, if_neg (fun q => q.2 (Or.inr (Or.inl (bI_1 h25))))]
                   rw [e]; exact ⟨rfl, rfl⟩)
                | (have e : rdTest I a p t x = (false, tFail I a 1) := by rw [rdTest, if_pos h7, if_neg (fun q => q.2 (Or.inl (bI_1 h16)))]
                   rw [e]; exact ⟨rfl, rfl⟩)
            · skip
              refine r_iconst (v := 2) X dX4_readTest_57 (by decide) ?_
              refine r_goto (tgt := 62) X dX4_readTest_58 (by decide) ?_
              refine q_callV X dX4_readTest_62 mX4_51 cwX7_fail (c_tFail GE S I V J N a _ hT) rfl (by assumption) rfl rfl rfl (Nat.le_of_ble_eq_true rfl) ⟨Nat.le_of_ble_eq_true rfl, Nat.le_of_ble_eq_true rfl⟩ ⟨(by first | omega | decide | (simp only [rmL, rmA]; omega)), (by first | omega | decide | (simp only [rmL, rmA]; omega))⟩ ?_
              rintro _ _ ⟨rfl, rfl⟩
              refine r_ireturn X dX4_readTest_65 rfl (by first | omega | decide | (simp only [rmL, rmA]; omega)) (by first | omega | decide | (simp only [rmL, rmA]; omega)) ?_
              first
                | (exact absurd rfl h54; done)
                | (exact absurd h54 (by decide); done)
                | (have e : rdTest I a p t x = (false, tFail I a 2) := by
                     rw [rdTest, if_pos h7, if_pos ⟨h49, by
                       rintro (z | z | z)
                       · rw [bI_0 h16] at z; exact absurd z (by decide)
                       · rw [bI_0 h25] at z; exact absurd z (by decide)
                       · exact z h33⟩]
                   rw [e]; exact ⟨rfl, rfl⟩)
                | (have e : rdTest I a p t x = (false, tFail I a 1) := by rw [rdTest, if_pos h7, if_neg (fun q => h49 q.1)]
                   rw [e]; exact ⟨rfl, rfl⟩)
                | (have e : rdTest I a p t x = (false, tFail I a 1) := by rw [rdTest, if_pos h7, if_neg (fun q => q.2 (Or.inr (Or.inr h33)))]
                   rw [e]; exact ⟨rfl, rfl⟩)
                | (have e : rdTest I a p t x = (false, tFail I a 1) := by rw [rdTest, if_pos h7, if_neg (fun q => q.2 (Or.inr (Or.inl (bI_1 h25))))]
                   rw [e]; exact ⟨rfl, rfl⟩)
                | (have e : rdTest I a p t x = (false, tFail I a 1) := by rw [rdTest, if_pos h7, if_neg (fun q => q.2 (Or.inl (bI_1 h16)))]
                   rw [e]; exact ⟨rfl, rfl⟩)
