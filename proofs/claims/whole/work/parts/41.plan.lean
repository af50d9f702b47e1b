/-! ===== SledHouse.plan ===== -/
theorem ok_open {I : Mem} {a n : Nat} (hn : n ≤ 400) : TkOK (tOpen I a n) a := by
  have h1 := tkAt_ge ((up2 (up2 (up2 (up2 (up2 I a 2 (nI n)) a 1 0) a 3 0) a 7 0) a 8 (-1)) (a + 1)) n 0
  have h2 := tkNx_ge ((up2 (up2 (up2 (up2 (up2 I a 2 (nI n)) a 1 0) a 3 0) a 7 0) a 8 (-1)) (a + 1)) n 0
  have h3 := tkNx_le ((up2 (up2 (up2 (up2 (up2 I a 2 (nI n)) a 1 0) a 3 0) a 7 0) a 8 (-1)) (a + 1)) (Nat.zero_le n)
  refine TkOK.of (e := n) (q := tkAt ((up2 (up2 (up2 (up2 (up2 I a 2 (nI n)) a 1 0) a 3 0) a 7 0) a 8 (-1)) (a + 1)) n 0) (nx := tkNx ((up2 (up2 (up2 (up2 (up2 I a 2 (nI n)) a 1 0) a 3 0) a 7 0) a 8 (-1)) (a + 1)) n 0) ⟨?_, hn, ?_, ?_, h2, h3⟩
  · unfold tOpen tAdv setTok
    simp [up2]
  · unfold tOpen tAdv setTok
    rw [up2_k (by decide), up2_k (by decide), up2_k (by decide), up2_same]
  · unfold tOpen tAdv setTok
    rw [up2_k (by decide), up2_same]
theorem open_o {I : Mem} {a n b k : Nat} (h : b ≠ a) : tOpen I a n b k = I b k := by
  unfold tOpen tAdv setTok
  iterate 9 rw [up2_a h]
theorem kp_rs {a p : Nat} : ∀ (f : Nat) (I : Mem), Kp (fun b _ => b ≠ a ∧ (b < p ∨ p + 6 < b)) I (rdRs I a p f).2
  | 0, I => fun b k q => (up2_a q.1).trans (up2_a q.1)
  | f + 1, I => by
    unfold rdRs
    split
    · split
      · exact kp_rule
      · split
        · exact (kp_rule.trans (fun b k q => adv_o q.1)).trans (kp_rs f _)
        · exact kp_rule.trans (fun b k q => (up2_a q.1).trans (up2_a q.1))
    · exact kp_rule
theorem kp_plan {I : Mem} {a p : Nat} : Kp (fun b _ => b ≠ a ∧ (b < p ∨ p + 6 < b)) I (rdPlan I a p).2 := ((Kp.refl.up (by omega)).up (by omega)).trans (kp_rs 13 _)
def hPlan (I : Mem) (h z pc : Nat) (x : Int32) : Int32 × Mem := match ixI x (z + 1) with
  | none => (-1, up2 I h 8 2)
  | some n => if (rdPlan (tOpen I (h + 1) n) (h + 1) (h + 87 + 7 * pc)).1 = true then
      (if pc < 8 then (nI pc, up2 (up2 (rdPlan (tOpen I (h + 1) n) (h + 1) (h + 87 + 7 * pc)).2 h 7 (nI (pc + 1))) h 8 0)
       else (-1, up2 (rdPlan (tOpen I (h + 1) n) (h + 1) (h + 87 + 7 * pc)).2 h 8 3))
    else (-1, up2 (rdPlan (tOpen I (h + 1) n) (h + 1) (h + 87 + 7 * pc)).2 h 8 4)
set_option maxHeartbeats 2000000 in
set_option maxRecDepth 20000 in
/-- SledHouse.plan -/
theorem c_hPlan {E : Ev} (GE : Glob E) (S : Nat → Option (Nat × Nat)) (I : Nat → Nat → Int32) (V : Nat → Nat → Option Nat) (J : Nat → Nat → Int64) (N : Nat) (h z pc : Nat) (x : Int32) (hZ : Strs E) (hH : HouseSh S V h) (hz : I (h + 1) 1 = nI z) (hz4 : z ≤ 400) (hp : I h 7 = nI pc) (hp8 : pc ≤ 8) : Ct E yX10_plan cX10_plan 2 (some .int) (rmL 10) [.ref h, .int x] (S, I, V, J, N) (fun v w' => v = some (.int (hPlan I h z pc x).1) ∧ w' = (S, (hPlan I h z pc x).2, V, J, N)) := by
  refine Ct.start GE (by decide) rfl (Nat.le_of_ble_eq_true rfl) (fun M X => ?_)
  have X : Cx E M RX10 cX10_plan 2 (rmL 10) (some .int) "plan" := X
  refine r_loc (L' := [some (.ref h), some (.int x)]) rfl ?_
  obtain ⟨hs0, hv0, hv1, hv2, hv3, hv4, hv5, hTp, hs3, hPl, hLw, hRc, hs76, hGh, hRow⟩ := id hH
  have ts0 := hTp.1
  have ls0 := hLw.1
  rcases hx : ixI x (z + 1) with _ | n
  · skip
    have hxx := ixI_none hx
    rw [show hPlan I h z pc x = (-1, up2 I h 8 2) by simp [hPlan, hx]]
    refine r_iload_n X dX10_plan_0 rfl rfl ?_
    refine r_if_lt (tgt := 15) X dX10_plan_1 (by decide) (fun h1 => ?_) (fun h1 => ?_)
    · skip
      refine r_aload_n X dX10_plan_15 rfl rfl ?_
      refine r_iconst (v := 2) X dX10_plan_16 (by decide) ?_
      refine q_callV X dX10_plan_17 mX10_73 cwX10_refuse (c_hRefuse GE S I V J N h _ hs0) rfl (by assumption) rfl rfl rfl (Nat.le_of_ble_eq_true rfl) ⟨Nat.le_of_ble_eq_true rfl, Nat.le_of_ble_eq_true rfl⟩ ⟨(by first | omega | decide | (simp only [rmL, rmA]; omega)), (by first | omega | decide | (simp only [rmL, rmA]; omega))⟩ ?_
      rintro _ _ ⟨rfl, rfl⟩
      refine r_ireturn X dX10_plan_20 rfl (by first | omega | decide | (simp only [rmL, rmA]; omega)) (by first | omega | decide | (simp only [rmL, rmA]; omega)) ?_
      exact ⟨rfl, rfl⟩
    · skip
      refine r_iload_n X dX10_plan_4 rfl rfl ?_
      refine r_aload_n X dX10_plan_5 rfl rfl ?_
      refine r_getR X dX10_plan_6 fX10_10 (by assumption) (by assumption) ?_
      refine r_getI X dX10_plan_9 fX10_115 (by assumption) (by first | assumption | rfl) ?_
      refine r_icmp_le (tgt := 21) X dX10_plan_12 (by decide) (fun h12 => ?_) (fun h12 => ?_)
      · skip
        refine hxx.elim (fun q => absurd q h1) (fun q => ?_)
        obtain ⟨m, hm, rfl⟩ := nI_of h1
        exact absurd (nI_leI hm (by omega) |>.mp h12) (by have := (nI_leI (by omega) hm).mp q; omega)
      · skip
        refine r_aload_n X dX10_plan_15 rfl rfl ?_
        refine r_iconst (v := 2) X dX10_plan_16 (by decide) ?_
        refine q_callV X dX10_plan_17 mX10_73 cwX10_refuse (c_hRefuse GE S I V J N h _ hs0) rfl (by assumption) rfl rfl rfl (Nat.le_of_ble_eq_true rfl) ⟨Nat.le_of_ble_eq_true rfl, Nat.le_of_ble_eq_true rfl⟩ ⟨(by first | omega | decide | (simp only [rmL, rmA]; omega)), (by first | omega | decide | (simp only [rmL, rmA]; omega))⟩ ?_
        rintro _ _ ⟨rfl, rfl⟩
        refine r_ireturn X dX10_plan_20 rfl (by first | omega | decide | (simp only [rmL, rmA]; omega)) (by first | omega | decide | (simp only [rmL, rmA]; omega)) ?_
        exact ⟨rfl, rfl⟩
  · skip
    obtain ⟨hn, rfl⟩ := ixI_some (by omega) hx
    have pe1 := (hPl pc (by omega)).1
    have pe2 := (hPl pc (by omega)).2
    have ps0 := pe2.1
    have p1 : tOpen I (h + 1) n h 7 = nI pc := (open_o (by omega)).trans hp
    have p2 : (rdPlan (tOpen I (h + 1) n) (h + 1) (h + 87 + 7 * pc)).2 h 7 = nI pc := (kp_plan h 7 ⟨by omega, by omega⟩).trans p1
    have he : hPlan I h z pc (nI n) = if (rdPlan (tOpen I (h + 1) n) (h + 1) (h + 87 + 7 * pc)).1 = true then (if pc < 8 then (nI pc, up2 (up2 (rdPlan (tOpen I (h + 1) n) (h + 1) (h + 87 + 7 * pc)).2 h 7 (nI (pc + 1))) h 8 0) else (-1, up2 (rdPlan (tOpen I (h + 1) n) (h + 1) (h + 87 + 7 * pc)).2 h 8 3)) else (-1, up2 (rdPlan (tOpen I (h + 1) n) (h + 1) (h + 87 + 7 * pc)).2 h 8 4) := by simp only [hPlan, hx]
    rw [he]
    refine r_iload_n X dX10_plan_0 rfl rfl ?_
    refine r_if_lt (tgt := 15) X dX10_plan_1 (by decide) (fun h1 => ?_) (fun h1 => ?_)
    · skip
      exact absurd h1 (nI_pos (by omega))
    · skip
      refine r_iload_n X dX10_plan_4 rfl rfl ?_
      refine r_aload_n X dX10_plan_5 rfl rfl ?_
      refine r_getR X dX10_plan_6 fX10_10 (by assumption) (by assumption) ?_
      refine r_getI X dX10_plan_9 fX10_115 (by assumption) (by first | assumption | rfl) ?_
      refine r_icmpN_le (tgt := 21) X dX10_plan_12 (by decide) (by omega) (by omega) (fun h12 => ?_) (fun h12 => ?_)
      · skip
        refine r_aload_n X dX10_plan_21 rfl rfl ?_
        refine r_getR X dX10_plan_22 fX10_10 (by assumption) (by assumption) ?_
        refine r_iload_n X dX10_plan_25 rfl rfl ?_
        refine q_callV X dX10_plan_26 mX10_122 cwX7_open (c_tOpen GE S I V J N (h + 1) n hTp (by omega)) rfl (by assumption) rfl rfl rfl (Nat.le_of_ble_eq_true rfl) ⟨Nat.le_of_ble_eq_true rfl, Nat.le_of_ble_eq_true rfl⟩ ⟨(by first | omega | decide | (simp only [rmL, rmA]; omega)), (by first | omega | decide | (simp only [rmL, rmA]; omega))⟩ ?_
        rintro _ _ ⟨rfl, rfl⟩
        refine r_aload_n X dX10_plan_29 rfl rfl ?_
        refine r_getR X dX10_plan_30 fX10_18 (by assumption) (by assumption) ?_
        refine r_aload_n X dX10_plan_33 rfl rfl ?_
        refine r_getI X dX10_plan_34 fX10_52 (by assumption) p1 ?_
        refine r_aaldN X dX10_plan_37 (by assumption) (by decide) rfl (by omega) (by omega) pe1 ?_
        refine r_aload_n X dX10_plan_38 rfl rfl ?_
        refine r_getR X dX10_plan_39 fX10_10 (by assumption) (by assumption) ?_
        refine q_callV X dX10_plan_42 mX10_125 cwX4_readFrom (c_rdPlan GE S _ V J N (h + 87 + 7 * pc) (h + 1) hZ pe2 hTp (ok_open (by omega)) (by omega)) rfl (by assumption) rfl rfl rfl (Nat.le_of_ble_eq_true rfl) ⟨Nat.le_of_ble_eq_true rfl, Nat.le_of_ble_eq_true rfl⟩ ⟨(by first | omega | decide | (simp only [rmL, rmA]; omega)), (by first | omega | decide | (simp only [rmL, rmA]; omega))⟩ ?_
        rintro _ _ ⟨rfl, rfl⟩
        refine r_if_ne (tgt := 54) X dX10_plan_45 (by decide) (fun h45 => ?_) (fun h45 => ?_)
        · skip
          refine r_aload_n X dX10_plan_54 rfl rfl ?_
          refine r_getI X dX10_plan_55 fX10_52 (by assumption) p2 ?_
          refine r_bipush (v := nI 8) X dX10_plan_58 (by decide) ?_
          refine r_icmpN_lt (tgt := 69) X dX10_plan_60 (by decide) (by omega) (by omega) (fun h60 => ?_) (fun h60 => ?_)
          · skip
            refine r_aload_n X dX10_plan_69 rfl rfl ?_
            refine r_dup X dX10_plan_70 rfl ?_
            refine r_getI X dX10_plan_71 fX10_52 (by assumption) p2 ?_
            refine r_iconst (v := 1) X dX10_plan_74 (by decide) ?_
            refine r_iadd X dX10_plan_75 ?_
            refine r_topi (nI (pc + 1)) (nI_1 _) ?_
            refine r_putI X dX10_plan_76 fX10_52 wX10_52 (by assumption) rfl rfl ?_
            refine r_aload_n X dX10_plan_79 rfl rfl ?_
            refine r_aload_n X dX10_plan_80 rfl rfl ?_
            refine r_getI X dX10_plan_81 fX10_52 (by assumption) (up2_same _ _ _ _) ?_
            refine r_iconst (v := 1) X dX10_plan_84 (by decide) ?_
            refine r_isub X dX10_plan_85 ?_
            refine r_topi (nI pc) (by rw [← nI_1 pc, Int32.add_sub_cancel]) ?_
            refine q_callV X dX10_plan_86 mX10_94 cwX10_grant (c_hGrant GE S _ V J N h _ hs0) rfl (by assumption) rfl rfl rfl (Nat.le_of_ble_eq_true rfl) ⟨Nat.le_of_ble_eq_true rfl, Nat.le_of_ble_eq_true rfl⟩ ⟨(by first | omega | decide | (simp only [rmL, rmA]; omega)), (by first | omega | decide | (simp only [rmL, rmA]; omega))⟩ ?_
            rintro _ _ ⟨rfl, rfl⟩
            refine r_ireturn X dX10_plan_89 rfl (by first | omega | decide | (simp only [rmL, rmA]; omega)) (by first | omega | decide | (simp only [rmL, rmA]; omega)) ?_
            rw [if_pos (bI_1 h45), if_pos (by omega)]
            exact ⟨rfl, rfl⟩
          · skip
            refine r_aload_n X dX10_plan_63 rfl rfl ?_
            refine r_iconst (v := 3) X dX10_plan_64 (by decide) ?_
            refine q_callV X dX10_plan_65 mX10_73 cwX10_refuse (c_hRefuse GE S _ V J N h _ hs0) rfl (by assumption) rfl rfl rfl (Nat.le_of_ble_eq_true rfl) ⟨Nat.le_of_ble_eq_true rfl, Nat.le_of_ble_eq_true rfl⟩ ⟨(by first | omega | decide | (simp only [rmL, rmA]; omega)), (by first | omega | decide | (simp only [rmL, rmA]; omega))⟩ ?_
            rintro _ _ ⟨rfl, rfl⟩
            refine r_ireturn X dX10_plan_68 rfl (by first | omega | decide | (simp only [rmL, rmA]; omega)) (by first | omega | decide | (simp only [rmL, rmA]; omega)) ?_
            rw [if_pos (bI_1 h45), if_neg (by omega)]
            exact ⟨rfl, rfl⟩
        · skip
          refine r_aload_n X dX10_plan_48 rfl rfl ?_
          refine r_iconst (v := 4) X dX10_plan_49 (by decide) ?_
          refine q_callV X dX10_plan_50 mX10_73 cwX10_refuse (c_hRefuse GE S _ V J N h _ hs0) rfl (by assumption) rfl rfl rfl (Nat.le_of_ble_eq_true rfl) ⟨Nat.le_of_ble_eq_true rfl, Nat.le_of_ble_eq_true rfl⟩ ⟨(by first | omega | decide | (simp only [rmL, rmA]; omega)), (by first | omega | decide | (simp only [rmL, rmA]; omega))⟩ ?_
          rintro _ _ ⟨rfl, rfl⟩
          refine r_ireturn X dX10_plan_53 rfl (by first | omega | decide | (simp only [rmL, rmA]; omega)) (by first | omega | decide | (simp only [rmL, rmA]; omega)) ?_
          rw [if_neg (by rw [bI_0 h45]; decide)]
          exact ⟨rfl, rfl⟩
      · skip
        omega
