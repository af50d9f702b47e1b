/-! ===== Plan.readRule, Plan.readFrom ===== -/
theorem kp_ts {a p : Nat} : ∀ (f : Nat) (I : Mem) (t x : Nat), Kp (PR a p) I (rdTs I a p t x f).2
  | 0, I, t, x => Kp.refl
  | f + 1, I, t, x => by
    have h1 : Kp (PR a p) I (rdTest (adv I a) a p t x).2 := kp_adv.trans kp_test
    unfold rdTs
    split
    · split
      · exact h1.trans (kp_ts f _ _ _)
      · exact h1
    · exact h1
theorem ok_ts {a p : Nat} (hap : a + 1 < p) : ∀ (f : Nat) (I : Mem) (t x : Nat), TkOK I a → I p 7 = nI t → t ≤ 48 → (rdTs I a p t x f).1 = true → TkOK (rdTs I a p t x f).2 a ∧ ∃ t', (rdTs I a p t x f).2 p 7 = nI t' ∧ t ≤ t' ∧ t' ≤ 48
  | 0, I, t, x, hK, ht, h48, h => ⟨hK, t, ht, Nat.le_refl _, h48⟩
  | f + 1, I, t, x, hK, ht, h48, h => by
    unfold rdTs at h ⊢
    split at h
    · next q =>
      have g := ok_test q hK.adv hap
      rw [if_pos q]
      split at h
      · next q2 =>
        rw [if_pos q2]
        obtain ⟨r1, t', r2, r3, r4⟩ := ok_ts hap f _ (t + 1) (x + 1) g.1 g.2.1 (by omega) h
        exact ⟨r1, t', r2, by omega, r4⟩
      · next q2 =>
        rw [if_neg q2]
        exact ⟨g.1, t + 1, g.2.1, by omega, by omega⟩
    · cases h
def rdEnd (I : Mem) (a p nr : Nat) : Bool × Mem :=
  if wAct (isW I a) = -1 then (false, tFail I a 1)
  else (true, up2 (up2 (up2 (adv I a) (p + 1) nr (wAct (isW I a))) (p + 3) nr (up2 (adv I a) (p + 1) nr (wAct (isW I a)) p 7 - up2 (adv I a) (p + 1) nr (wAct (isW I a)) (p + 2) nr)) p 6 (nI (nr + 1)))
def rdRule (I : Mem) (a p t nr : Nat) : Bool × Mem :=
  if isW I a kw_when = false ∧ wAct (isW I a) = -1 then (false, tFail I a 1)
  else if 12 ≤ nr then (false, tFail I a 3)
  else if isW I a kw_when = true then
    (if (rdTests (up2 I (p + 2) nr (nI t)) a p t).1 = true then rdEnd (rdTests (up2 I (p + 2) nr (nI t)) a p t).2 a p nr else (false, (rdTests (up2 I (p + 2) nr (nI t)) a p t).2))
  else rdEnd (up2 I (p + 2) nr (nI t)) a p nr
set_option maxHeartbeats 2000000 in
set_option maxRecDepth 20000 in
/-- SledHouse$Plan.readRule -/
theorem c_rdRule {E : Ev} (GE : Glob E) (S : Nat → Option (Nat × Nat)) (I : Nat → Nat → Int32) (V : Nat → Nat → Option Nat) (J : Nat → Nat → Int64) (N : Nat) (p a t nr : Nat) (hZ : Strs E) (hP : PlanSh S V p) (hT : TapeSh S V a) (hK : TkOK I a) (ht : I p 7 = nI t) (ht48 : t ≤ 48) (hr : I p 6 = nI nr) (hr12 : nr ≤ 12) (hap : a + 1 < p) : Ct E yX4_readRule cX4_readRule 4 (some .boolean) (rmL 8) [.ref p, .ref a] (S, I, V, J, N) (fun v w' => v = some (.int (bI (rdRule I a p t nr).1)) ∧ w' = (S, (rdRule I a p t nr).2, V, J, N)) := by
  refine Ct.start GE (by decide) rfl (Nat.le_of_ble_eq_true rfl) (fun M X => ?_)
  have X : Cx E M RX4 cX4_readRule 4 (rmL 8) (some .boolean) "readRule" := X
  refine r_loc (L' := [some (.ref p), some (.ref a), none, none]) rfl ?_
  obtain ⟨hs0, hv0, hv1, hv2, hv3, hv4, hv5, hs1, hs2, hs3, hs4, hs5, hs6⟩ := id hP
  have ts0 := hT.1
  have H67 : ∀ (I2 : Mem) (x2 : Int32), nr < 12 → TkOK I2 a → I2 p 6 = nI nr → rdRule I a p t nr = rdEnd I2 a p nr → G E M 0 0 (qQ E M (rmL 8) (fun v w' => v = some (.int (bI (rdRule I a p t nr).1)) ∧ w' = (S, (rdRule I a p t nr).2, V, J, N))) 67 [some (.ref p), some (.ref a), some (.int x2), none] [] (S, I2, V, J, N) := by
    intro I2 x2 h12 hK2 hr2 he
    rw [he]
    have r3 : adv I2 a p 6 = nI nr := (adv_o (by omega)).trans hr2
    have r4 : ∀ y, up2 (adv I2 a) (p + 1) nr y p 6 = nI nr := fun y => (up2_a (by omega)).trans r3
    have r5 : ∀ y z, up2 (up2 (adv I2 a) (p + 1) nr y) (p + 3) nr z p 6 = nI nr := fun y z => (up2_a (by omega)).trans (r4 y)
    refine r_aload_n X dX4_readRule_67 rfl rfl ?_
    refine q_callS X dX4_readRule_68 mX4_61 cwX4_actOf (c_actOf GE S I2 V J N a hZ hT hK2) rfl rfl (Nat.le_of_ble_eq_true rfl) ⟨Nat.le_of_ble_eq_true rfl, Nat.le_of_ble_eq_true rfl⟩ ⟨(by first | omega | decide | (simp only [rmL, rmA]; omega)), (by first | omega | decide | (simp only [rmL, rmA]; omega))⟩ ?_
    rintro _ _ ⟨rfl, rfl⟩
    refine r_istore_n X dX4_readRule_71 rfl (by decide) rfl ?_
    refine r_iload_n X dX4_readRule_72 rfl rfl ?_
    refine r_iconst (v := -1) X dX4_readRule_73 (by decide) ?_
    refine r_icmp_ne (tgt := 83) X dX4_readRule_74 (by decide) (fun h74 => ?_) (fun h74 => ?_)
    · skip
      refine r_aload_n X dX4_readRule_83 rfl rfl ?_
      refine q_callV X dX4_readRule_84 mX4_68 cwX7_advance (c_advK GE S I2 V J N a hT hK2) rfl (by assumption) rfl rfl rfl (Nat.le_of_ble_eq_true rfl) ⟨Nat.le_of_ble_eq_true rfl, Nat.le_of_ble_eq_true rfl⟩ ⟨(by first | omega | decide | (simp only [rmL, rmA]; omega)), (by first | omega | decide | (simp only [rmL, rmA]; omega))⟩ ?_
      rintro _ _ ⟨rfl, rfl⟩
      refine r_aload_n X dX4_readRule_87 rfl rfl ?_
      refine r_getR X dX4_readRule_88 fX4_9 (by assumption) (by assumption) ?_
      refine r_aload_n X dX4_readRule_91 rfl rfl ?_
      refine r_getI X dX4_readRule_92 fX4_31 (by assumption) r3 ?_
      refine r_iload_n X dX4_readRule_95 rfl rfl ?_
      refine r_iastN X dX4_readRule_96 (by assumption) (by omega) (by omega) ?_
      refine r_aload_n X dX4_readRule_97 rfl rfl ?_
      refine r_getR X dX4_readRule_98 fX4_18 (by assumption) (by assumption) ?_
      refine r_aload_n X dX4_readRule_101 rfl rfl ?_
      refine r_getI X dX4_readRule_102 fX4_31 (by assumption) (r4 _) ?_
      refine r_aload_n X dX4_readRule_105 rfl rfl ?_
      refine r_getI X dX4_readRule_106 fX4_35 (by assumption) (by first | assumption | rfl) ?_
      refine r_aload_n X dX4_readRule_109 rfl rfl ?_
      refine r_getR X dX4_readRule_110 fX4_15 (by assumption) (by assumption) ?_
      refine r_aload_n X dX4_readRule_113 rfl rfl ?_
      refine r_getI X dX4_readRule_114 fX4_31 (by assumption) (r4 _) ?_
      refine r_ialdN X dX4_readRule_117 (by assumption) (by omega) (by omega) (by first | assumption | rfl) ?_
      refine r_isub X dX4_readRule_118 ?_
      refine r_iastN X dX4_readRule_119 (by assumption) (by omega) (by omega) ?_
      refine r_aload_n X dX4_readRule_120 rfl rfl ?_
      refine r_dup X dX4_readRule_121 rfl ?_
      refine r_getI X dX4_readRule_122 fX4_31 (by assumption) (r5 _ _) ?_
      refine r_iconst (v := 1) X dX4_readRule_125 (by decide) ?_
      refine r_iadd X dX4_readRule_126 ?_
      refine r_topi (nI (nr + 1)) (nI_1 _) ?_
      refine r_putI X dX4_readRule_127 fX4_31 wX4_31 (by assumption) rfl rfl ?_
      refine r_iconst (v := 1) X dX4_readRule_130 (by decide) ?_
      refine r_ireturn X dX4_readRule_131 rfl (by first | omega | decide | (simp only [rmL, rmA]; omega)) (by first | omega | decide | (simp only [rmL, rmA]; omega)) ?_
      rw [rdEnd, if_neg h74]
      exact ⟨rfl, rfl⟩
    · skip
      refine r_aload_n X dX4_readRule_77 rfl rfl ?_
      refine r_iconst (v := 1) X dX4_readRule_78 (by decide) ?_
      refine q_callV X dX4_readRule_79 mX4_51 cwX7_fail (c_tFail GE S I2 V J N a _ hT) rfl (by assumption) rfl rfl rfl (Nat.le_of_ble_eq_true rfl) ⟨Nat.le_of_ble_eq_true rfl, Nat.le_of_ble_eq_true rfl⟩ ⟨(by first | omega | decide | (simp only [rmL, rmA]; omega)), (by first | omega | decide | (simp only [rmL, rmA]; omega))⟩ ?_
      rintro _ _ ⟨rfl, rfl⟩
      refine r_ireturn X dX4_readRule_82 rfl (by first | omega | decide | (simp only [rmL, rmA]; omega)) (by first | omega | decide | (simp only [rmL, rmA]; omega)) ?_
      rw [rdEnd, if_pos h74]
      exact ⟨rfl, rfl⟩
  have H25 : ¬ (isW I a kw_when = false ∧ wAct (isW I a) = -1) → G E M 0 0 (qQ E M (rmL 8) (fun v w' => v = some (.int (bI (rdRule I a p t nr).1)) ∧ w' = (S, (rdRule I a p t nr).2, V, J, N))) 25 [some (.ref p), some (.ref a), some (.int (bI (isW I a kw_when))), none] [] (S, I, V, J, N) := by
    intro g1
    have hK1 : TkOK (up2 I (p + 2) nr (nI t)) a := hK.keep (up2_a (by omega)) (up2_a (by omega)) (up2_a (by omega))
    have t1 : up2 I (p + 2) nr (nI t) p 7 = nI t := (up2_a (by omega)).trans ht
    have r1 : up2 I (p + 2) nr (nI t) p 6 = nI nr := (up2_a (by omega)).trans hr
    refine r_aload_n X dX4_readRule_25 rfl rfl ?_
    refine r_getI X dX4_readRule_26 fX4_31 (by assumption) (by first | assumption | rfl) ?_
    refine r_bipush (v := nI 12) X dX4_readRule_29 (by decide) ?_
    refine r_icmpN_lt (tgt := 40) X dX4_readRule_31 (by decide) (by omega) (by omega) (fun h31 => ?_) (fun h31 => ?_)
    · skip
      refine r_aload_n X dX4_readRule_40 rfl rfl ?_
      refine r_getR X dX4_readRule_41 fX4_15 (by assumption) (by assumption) ?_
      refine r_aload_n X dX4_readRule_44 rfl rfl ?_
      refine r_getI X dX4_readRule_45 fX4_31 (by assumption) (by first | assumption | rfl) ?_
      refine r_aload_n X dX4_readRule_48 rfl rfl ?_
      refine r_getI X dX4_readRule_49 fX4_35 (by assumption) (by first | assumption | rfl) ?_
      refine r_iastN X dX4_readRule_52 (by assumption) (by omega) (by omega) ?_
      refine r_iload_n X dX4_readRule_53 rfl rfl ?_
      refine r_if_eq (tgt := 67) X dX4_readRule_54 (by decide) (fun h54 => ?_) (fun h54 => ?_)
      · skip
        first
          | exact H67 _ _ (by omega) hK1 r1 (by rw [rdRule, if_neg g1, if_neg (by omega), if_neg (by rw [bI_0 h54]; decide)])
          | (have g := ok_ts hap 5 _ t 0 hK1 t1 ht48 (bI_1 h62)
             exact H67 _ _ (by omega) g.1 ((kp_ts 5 _ t 0 p 6 (by unfold PR; omega)).trans r1) (by rw [rdRule, if_neg g1, if_neg (by omega), if_pos (bI_1 h54), if_pos (bI_1 h62)]))
      · skip
        refine r_aload_n X dX4_readRule_57 rfl rfl ?_
        refine r_aload_n X dX4_readRule_58 rfl rfl ?_
        refine q_callV X dX4_readRule_59 mX4_65 cwX4_readTests (c_rdTests GE S _ V J N p a t hZ hP hT hK1 t1 ht48 hap) rfl (by assumption) rfl rfl rfl (Nat.le_of_ble_eq_true rfl) ⟨Nat.le_of_ble_eq_true rfl, Nat.le_of_ble_eq_true rfl⟩ ⟨(by first | omega | decide | (simp only [rmL, rmA]; omega)), (by first | omega | decide | (simp only [rmL, rmA]; omega))⟩ ?_
        rintro _ _ ⟨rfl, rfl⟩
        refine r_if_ne (tgt := 67) X dX4_readRule_62 (by decide) (fun h62 => ?_) (fun h62 => ?_)
        · skip
          first
            | exact H67 _ _ (by omega) hK1 r1 (by rw [rdRule, if_neg g1, if_neg (by omega), if_neg (by rw [bI_0 h54]; decide)])
            | (have g := ok_ts hap 5 _ t 0 hK1 t1 ht48 (bI_1 h62)
               exact H67 _ _ (by omega) g.1 ((kp_ts 5 _ t 0 p 6 (by unfold PR; omega)).trans r1) (by rw [rdRule, if_neg g1, if_neg (by omega), if_pos (bI_1 h54), if_pos (bI_1 h62)]))
        · skip
          refine r_iconst (v := 0) X dX4_readRule_65 (by decide) ?_
          refine r_ireturn X dX4_readRule_66 rfl (by first | omega | decide | (simp only [rmL, rmA]; omega)) (by first | omega | decide | (simp only [rmL, rmA]; omega)) ?_
          rw [rdRule, if_neg g1, if_neg (by omega), if_pos (bI_1 h54), if_neg (by rw [bI_0 h62]; decide)]
          exact ⟨rfl, rfl⟩
    · skip
      refine r_aload_n X dX4_readRule_34 rfl rfl ?_
      refine r_iconst (v := 3) X dX4_readRule_35 (by decide) ?_
      refine q_callV X dX4_readRule_36 mX4_51 cwX7_fail (c_tFail GE S I V J N a _ hT) rfl (by assumption) rfl rfl rfl (Nat.le_of_ble_eq_true rfl) ⟨Nat.le_of_ble_eq_true rfl, Nat.le_of_ble_eq_true rfl⟩ ⟨(by first | omega | decide | (simp only [rmL, rmA]; omega)), (by first | omega | decide | (simp only [rmL, rmA]; omega))⟩ ?_
      rintro _ _ ⟨rfl, rfl⟩
      refine r_ireturn X dX4_readRule_39 rfl (by first | omega | decide | (simp only [rmL, rmA]; omega)) (by first | omega | decide | (simp only [rmL, rmA]; omega)) ?_
      rw [rdRule, if_neg g1, if_pos (by omega)]
      exact ⟨rfl, rfl⟩
  refine r_aload_n X dX4_readRule_0 rfl rfl ?_
  refine r_ldcS X dX4_readRule_1 (sX4_55 hZ) (fun u1 hu1 => ?_)
  refine q_callV X dX4_readRule_3 mX4_57 cwX7_isWord (c_isW GE S I V J N a _ kw_when hZ hT hK (by assumption)) rfl (by assumption) rfl rfl rfl (Nat.le_of_ble_eq_true rfl) ⟨Nat.le_of_ble_eq_true rfl, Nat.le_of_ble_eq_true rfl⟩ ⟨(by first | omega | decide | (simp only [rmL, rmA]; omega)), (by first | omega | decide | (simp only [rmL, rmA]; omega))⟩ ?_
  rintro _ _ ⟨rfl, rfl⟩
  refine r_istore_n X dX4_readRule_6 rfl (by decide) rfl ?_
  refine r_iload_n X dX4_readRule_7 rfl rfl ?_
  refine r_if_ne (tgt := 25) X dX4_readRule_8 (by decide) (fun h8 => ?_) (fun h8 => ?_)
  · skip
    first
      | exact H25 (fun q => h16 q.2)
      | exact H25 (fun q => by have := bI_1 h8; rw [q.1] at this; cases this)
  · skip
    refine r_aload_n X dX4_readRule_11 rfl rfl ?_
    refine q_callS X dX4_readRule_12 mX4_61 cwX4_actOf (c_actOf GE S I V J N a hZ hT hK) rfl rfl (Nat.le_of_ble_eq_true rfl) ⟨Nat.le_of_ble_eq_true rfl, Nat.le_of_ble_eq_true rfl⟩ ⟨(by first | omega | decide | (simp only [rmL, rmA]; omega)), (by first | omega | decide | (simp only [rmL, rmA]; omega))⟩ ?_
    rintro _ _ ⟨rfl, rfl⟩
    refine r_iconst (v := -1) X dX4_readRule_15 (by decide) ?_
    refine r_icmp_ne (tgt := 25) X dX4_readRule_16 (by decide) (fun h16 => ?_) (fun h16 => ?_)
    · skip
      first
        | exact H25 (fun q => h16 q.2)
        | exact H25 (fun q => by have := bI_1 h8; rw [q.1] at this; cases this)
    · skip
      refine r_aload_n X dX4_readRule_19 rfl rfl ?_
      refine r_iconst (v := 1) X dX4_readRule_20 (by decide) ?_
      refine q_callV X dX4_readRule_21 mX4_51 cwX7_fail (c_tFail GE S I V J N a _ hT) rfl (by assumption) rfl rfl rfl (Nat.le_of_ble_eq_true rfl) ⟨Nat.le_of_ble_eq_true rfl, Nat.le_of_ble_eq_true rfl⟩ ⟨(by first | omega | decide | (simp only [rmL, rmA]; omega)), (by first | omega | decide | (simp only [rmL, rmA]; omega))⟩ ?_
      rintro _ _ ⟨rfl, rfl⟩
      refine r_ireturn X dX4_readRule_24 rfl (by first | omega | decide | (simp only [rmL, rmA]; omega)) (by first | omega | decide | (simp only [rmL, rmA]; omega)) ?_
      rw [rdRule, if_pos ⟨bI_0 h8, h16⟩]
      exact ⟨rfl, rfl⟩
theorem kp_rule {I : Mem} {a p t nr : Nat} : Kp (fun b _ => b ≠ a ∧ (b < p ∨ p + 6 < b)) I (rdRule I a p t nr).2 := by
  have hend : ∀ I : Mem, Kp (fun b _ => b ≠ a ∧ (b < p ∨ p + 6 < b)) I (rdEnd I a p nr).2 := by
    intro I
    unfold rdEnd
    split
    · exact fun b k q => (up2_a q.1).trans (up2_a q.1)
    · have ha : Kp (fun b _ => b ≠ a ∧ (b < p ∨ p + 6 < b)) I (adv I a) := fun b k q => adv_o q.1
      exact ((Kp.up ha (by omega)).up (by omega)).up (by omega)
  have h0 : Kp (fun b _ => b ≠ a ∧ (b < p ∨ p + 6 < b)) I (up2 I (p + 2) nr (nI t)) := Kp.refl.up (by omega)
  have hts : Kp (fun b _ => b ≠ a ∧ (b < p ∨ p + 6 < b)) (up2 I (p + 2) nr (nI t)) (rdTests (up2 I (p + 2) nr (nI t)) a p t).2 := (kp_ts 5 _ t 0).mono (fun b k q => by unfold PR; omega)
  unfold rdRule
  split
  · exact fun b k q => (up2_a q.1).trans (up2_a q.1)
  · split
    · exact fun b k q => (up2_a q.1).trans (up2_a q.1)
    · split
      · split
        · exact (h0.trans hts).trans (hend _)
        · exact h0.trans hts
      · exact h0.trans (hend _)
theorem ok_rule {I : Mem} {a p t nr : Nat} (h : (rdRule I a p t nr).1 = true) (hK : TkOK I a) (ht : I p 7 = nI t) (h48 : t ≤ 48) (hap : a + 1 < p) : TkOK (rdRule I a p t nr).2 a ∧ (rdRule I a p t nr).2 p 6 = nI (nr + 1) ∧ nr < 12 ∧ ∃ t', (rdRule I a p t nr).2 p 7 = nI t' ∧ t ≤ t' ∧ t' ≤ 48 := by
  have hend : ∀ (I : Mem), TkOK I a → (rdEnd I a p nr).1 = true → TkOK (rdEnd I a p nr).2 a ∧ (rdEnd I a p nr).2 p 6 = nI (nr + 1) ∧ (rdEnd I a p nr).2 p 7 = I p 7 := by
    intro I hK h
    unfold rdEnd at h ⊢
    split at h
    · cases h
    · next q =>
      rw [if_neg q]
      exact ⟨hK.adv.keep ((up2_a (by omega)).trans ((up2_a (by omega)).trans (up2_a (by omega)))) ((up2_a (by omega)).trans ((up2_a (by omega)).trans (up2_a (by omega)))) ((up2_a (by omega)).trans ((up2_a (by omega)).trans (up2_a (by omega)))), up2_same _ _ _ _, (up2_k (by decide)).trans ((up2_a (by omega)).trans ((up2_a (by omega)).trans (adv_o (by omega))))⟩
  have hK1 : TkOK (up2 I (p + 2) nr (nI t)) a := hK.keep (up2_a (by omega)) (up2_a (by omega)) (up2_a (by omega))
  have t1 : up2 I (p + 2) nr (nI t) p 7 = nI t := (up2_a (by omega)).trans ht
  unfold rdRule at h ⊢
  split at h
  · cases h
  · next q1 =>
    rw [if_neg q1]
    split at h
    · cases h
    · next q2 =>
      rw [if_neg q2]
      split at h
      · next q3 =>
        rw [if_pos q3]
        split at h
        · next q4 =>
          rw [if_pos q4]
          obtain ⟨g1, t', g2, g3, g4⟩ := ok_ts hap 5 _ t 0 hK1 t1 h48 q4
          have g5 := hend _ g1 h
          exact ⟨g5.1, g5.2.1, by omega, t', g5.2.2.trans g2, g3, g4⟩
        · cases h
      · next q3 =>
        rw [if_neg q3]
        have g5 := hend _ hK1 h
        exact ⟨g5.1, g5.2.1, by omega, t, g5.2.2.trans t1, Nat.le_refl _, h48⟩
def pT (I : Mem) (p : Nat) : Nat := (I p 7).toNatClampNeg
def rdRs (I : Mem) (a p : Nat) : Nat → Bool × Mem
  | 0 => (false, tFail I a 3)
  | f + 1 => if (rdRule I a p (pT I p) (pN I p)).1 = true then
      (if (rdRule I a p (pT I p) (pN I p)).2 a 4 = 0 then (true, (rdRule I a p (pT I p) (pN I p)).2)
       else if (rdRule I a p (pT I p) (pN I p)).2 a 4 = 5 then rdRs (adv (rdRule I a p (pT I p) (pN I p)).2 a) a p f
       else (false, tFail (rdRule I a p (pT I p) (pN I p)).2 a 1))
    else (false, (rdRule I a p (pT I p) (pN I p)).2)
def rdPlan (I : Mem) (a p : Nat) : Bool × Mem := rdRs (up2 (up2 I p 6 (nI 0)) p 7 (nI 0)) a p 13
set_option maxHeartbeats 2000000 in
set_option maxRecDepth 20000 in
/-- SledHouse$Plan.readFrom -/
theorem c_rdPlan {E : Ev} (GE : Glob E) (S : Nat → Option (Nat × Nat)) (I : Nat → Nat → Int32) (V : Nat → Nat → Option Nat) (J : Nat → Nat → Int64) (N : Nat) (p a : Nat) (hZ : Strs E) (hP : PlanSh S V p) (hT : TapeSh S V a) (hK : TkOK I a) (hap : a + 1 < p) : Ct E yX4_readFrom cX4_readFrom 3 (some .boolean) (rmL 9) [.ref p, .ref a] (S, I, V, J, N) (fun v w' => v = some (.int (bI (rdPlan I a p).1)) ∧ w' = (S, (rdPlan I a p).2, V, J, N)) := by
  refine Ct.start GE (by decide) rfl (Nat.le_of_ble_eq_true rfl) (fun M X => ?_)
  have X : Cx E M RX4 cX4_readFrom 3 (rmL 9) (some .boolean) "readFrom" := X
  refine r_loc (L' := [some (.ref p), some (.ref a), none]) rfl ?_
  have ts0 := hT.1
  have hs0 := hP.1
  have H : ∀ j, j ≤ 13 → ∀ I1 : Mem, TkOK I1 a → I1 p 7 = nI (pT I1 p) → pT I1 p ≤ 48 → I1 p 6 = nI (pN I1 p) → pN I1 p ≤ 12 → rdPlan I a p = rdRs I1 a p (13 - j) → G E M 0 0 (qQ E M (rmL 9) (fun v w' => v = some (.int (bI (rdPlan I a p).1)) ∧ w' = (S, (rdPlan I a p).2, V, J, N))) 12 [some (.ref p), some (.ref a), some (.int (nI j))] [] (S, I1, V, J, N) := by
    refine loopN 13 (fun j hj ih => ?_)
    intro I1 hK1 ht h48 hr h12 he
    rcases Nat.lt_or_ge j 13 with z | z
    · skip
      rw [show 13 - j = (13 - (j + 1)) + 1 by omega, rdRs] at he
      refine r_iload_n X dX4_readFrom_12 rfl rfl ?_
      refine r_bipush (v := nI 12) X dX4_readFrom_13 (by decide) ?_
      refine r_icmpN_gt (tgt := 52) X dX4_readFrom_15 (by decide) (by omega) (by omega) (fun h15 => ?_) (fun h15 => ?_)
      · skip
        omega
      · skip
        refine r_aload_n X dX4_readFrom_18 rfl rfl ?_
        refine r_aload_n X dX4_readFrom_19 rfl rfl ?_
        refine q_callV X dX4_readFrom_20 mX4_38 cwX4_readRule (c_rdRule GE S I1 V J N p a (pT I1 p) (pN I1 p) hZ hP hT hK1 ht h48 hr h12 hap) rfl (by assumption) rfl rfl rfl (Nat.le_of_ble_eq_true rfl) ⟨Nat.le_of_ble_eq_true rfl, Nat.le_of_ble_eq_true rfl⟩ ⟨(by first | omega | decide | (simp only [rmL, rmA]; omega)), (by first | omega | decide | (simp only [rmL, rmA]; omega))⟩ ?_
        rintro _ _ ⟨rfl, rfl⟩
        refine r_if_ne (tgt := 28) X dX4_readFrom_23 (by decide) (fun h23 => ?_) (fun h23 => ?_)
        · skip
          have g1 := bI_1 h23
          obtain ⟨g2, g3, g4, t', g5, g6, g7⟩ := ok_rule g1 hK1 ht h48 hap
          rw [if_pos g1] at he
          refine r_aload_n X dX4_readFrom_28 rfl rfl ?_
          refine r_getI X dX4_readFrom_29 fX4_42 (by assumption) (by first | assumption | rfl) ?_
          refine r_if_ne (tgt := 37) X dX4_readFrom_32 (by decide) (fun h32 => ?_) (fun h32 => ?_)
          · skip
            refine r_aload_n X dX4_readFrom_37 rfl rfl ?_
            refine q_callV X dX4_readFrom_38 mX4_47 cwX7_takeSemicolon (c_tSemi GE S _ V J N a _ _ _ hT g2) rfl (by assumption) rfl rfl rfl (Nat.le_of_ble_eq_true rfl) ⟨Nat.le_of_ble_eq_true rfl, Nat.le_of_ble_eq_true rfl⟩ ⟨(by first | omega | decide | (simp only [rmL, rmA]; omega)), (by first | omega | decide | (simp only [rmL, rmA]; omega))⟩ ?_
            rintro _ _ ⟨rfl, rfl⟩
            refine r_if_ne (tgt := 46) X dX4_readFrom_41 (by decide) (fun h41 => ?_) (fun h41 => ?_)
            · skip
              first | refine r_iincN X dX4_readFrom_46 rfl (by decide) rfl ?_ | refine r_iinc X dX4_readFrom_46 rfl rfl (by decide) rfl ?_
              refine r_goto (tgt := 12) X dX4_readFrom_49 (by decide) ?_
              have g8 : (rdRule I1 a p (pT I1 p) (pN I1 p)).2 a 4 = 5 := of_decide_eq_true (bI_1 h41)
              rw [if_neg h32, if_pos g8] at he
              refine r_world (w' := (S, adv (rdRule I1 a p (pT I1 p) (pN I1 p)).2 a, V, J, N)) (by rw [tSemi, if_pos g8]; rfl) ?_
              have p7 : adv (rdRule I1 a p (pT I1 p) (pN I1 p)).2 a p 7 = nI t' := (adv_o (by omega)).trans g5
              have p6 : adv (rdRule I1 a p (pT I1 p) (pN I1 p)).2 a p 6 = nI (pN I1 p + 1) := (adv_o (by omega)).trans g3
              have q7 : pT (adv (rdRule I1 a p (pT I1 p) (pN I1 p)).2 a) p = t' := by
                have : pT (adv (rdRule I1 a p (pT I1 p) (pN I1 p)).2 a) p = (nI t').toNatClampNeg := by rw [← p7]; rfl
                rw [this, nI_clamp (by omega)]
              have q6 : pN (adv (rdRule I1 a p (pT I1 p) (pN I1 p)).2 a) p = pN I1 p + 1 := by
                have : pN (adv (rdRule I1 a p (pT I1 p) (pN I1 p)).2 a) p = (nI (pN I1 p + 1)).toNatClampNeg := by rw [← p6]; rfl
                rw [this, nI_clamp (by omega)]
              exact ih z _ g2.adv (by rw [q7]; exact p7) (by omega) (by rw [q6]; exact p6) (by omega) he
            · skip
              refine r_iconst (v := 0) X dX4_readFrom_44 (by decide) ?_
              refine r_ireturn X dX4_readFrom_45 rfl (by first | omega | decide | (simp only [rmL, rmA]; omega)) (by first | omega | decide | (simp only [rmL, rmA]; omega)) ?_
              have g8 : ¬ (rdRule I1 a p (pT I1 p) (pN I1 p)).2 a 4 = 5 := fun q => by have := bI_0 h41; rw [decide_eq_true q] at this; cases this
              rw [he, if_neg h32, if_neg g8]
              exact ⟨rfl, by rw [tSemi, if_neg g8]⟩
          · skip
            refine r_iconst (v := 1) X dX4_readFrom_35 (by decide) ?_
            refine r_ireturn X dX4_readFrom_36 rfl (by first | omega | decide | (simp only [rmL, rmA]; omega)) (by first | omega | decide | (simp only [rmL, rmA]; omega)) ?_
            rw [he, if_pos h32]
            exact ⟨rfl, rfl⟩
        · skip
          refine r_iconst (v := 0) X dX4_readFrom_26 (by decide) ?_
          refine r_ireturn X dX4_readFrom_27 rfl (by first | omega | decide | (simp only [rmL, rmA]; omega)) (by first | omega | decide | (simp only [rmL, rmA]; omega)) ?_
          rw [he, if_neg (by rw [bI_0 h23]; decide)]
          exact ⟨rfl, rfl⟩
    · skip
      obtain rfl : j = 13 := by omega
      rw [he]
      refine r_iload_n X dX4_readFrom_12 rfl rfl ?_
      refine r_bipush (v := nI 12) X dX4_readFrom_13 (by decide) ?_
      refine r_icmpN_gt (tgt := 52) X dX4_readFrom_15 (by decide) (by omega) (by omega) (fun h15 => ?_) (fun h15 => ?_)
      · skip
        refine r_aload_n X dX4_readFrom_52 rfl rfl ?_
        refine r_iconst (v := 3) X dX4_readFrom_53 (by decide) ?_
        refine q_callV X dX4_readFrom_54 mX4_51 cwX7_fail (c_tFail GE S I1 V J N a _ hT) rfl (by assumption) rfl rfl rfl (Nat.le_of_ble_eq_true rfl) ⟨Nat.le_of_ble_eq_true rfl, Nat.le_of_ble_eq_true rfl⟩ ⟨(by first | omega | decide | (simp only [rmL, rmA]; omega)), (by first | omega | decide | (simp only [rmL, rmA]; omega))⟩ ?_
        rintro _ _ ⟨rfl, rfl⟩
        refine r_ireturn X dX4_readFrom_57 rfl (by first | omega | decide | (simp only [rmL, rmA]; omega)) (by first | omega | decide | (simp only [rmL, rmA]; omega)) ?_
        exact ⟨rfl, rfl⟩
      · skip
        omega
  refine r_aload_n X dX4_readFrom_0 rfl rfl ?_
  refine r_iconst (v := nI 0) X dX4_readFrom_1 (by decide) ?_
  refine r_putI X dX4_readFrom_2 fX4_31 wX4_31 (by assumption) rfl rfl ?_
  refine r_aload_n X dX4_readFrom_5 rfl rfl ?_
  refine r_iconst (v := nI 0) X dX4_readFrom_6 (by decide) ?_
  refine r_putI X dX4_readFrom_7 fX4_35 wX4_35 (by assumption) rfl rfl ?_
  refine r_iconst (v := nI 0) X dX4_readFrom_10 (by decide) ?_
  refine r_istore_n X dX4_readFrom_11 rfl (by decide) rfl ?_
  refine H 0 (by omega) _ (hK.keep ((up2_a (by omega)).trans (up2_a (by omega))) ((up2_a (by omega)).trans (up2_a (by omega))) ((up2_a (by omega)).trans (up2_a (by omega)))) ?_ ?_ ?_ ?_ rfl
  · unfold pT; rw [up2_same, nI_clamp (by omega)]
  · unfold pT; rw [up2_same, nI_clamp (by omega)]; omega
  · unfold pN; rw [up2_k (by decide), up2_same, nI_clamp (by omega)]
  · unfold pN; rw [up2_k (by decide), up2_same, nI_clamp (by omega)]; omega
