/-! ===== SledHouse.run ===== -/
theorem hs_osW {h c e n pc u : Nat} {w : Wd} (H : HSw h c e n pc u w) (hu : u < 2000) : HSw h c e n pc (u + 1) (osW h c u e w) := by
  have H1 := HS.osT H u c (Nat.le_refl _)
  unfold osW
  revert H1
  generalize osT h u e w c = w1
  obtain ⟨S, I, V, J, N⟩ := w1
  intro H1
  replace H1 : HS h c e n pc u S I V N := H1
  have hc6 := H1.hc6
  have hp9 := H1.hp9
  have hk : ∀ b k, ¬ (b = h + 9 ∧ k = 3) → up2 I (h + 9) 3 (nI (u + 1)) b k = I b k := fun b k z => by unfold up2; rw [if_neg z]
  refine ⟨H1.hH, H1.hN, (hk _ _ (by omega)).trans H1.hc, H1.hc6, (hk _ _ (by omega)).trans H1.hE, H1.he, H1.he48, up2_same _ _ _ _, hu, (hk _ _ (by omega)).trans H1.hn, H1.hn12, H1.hp9, fun i hi => ?_, fun q hq => ?_, H1.hW⟩
  · have ht : tm h i = h + 9 + 7 + 10 * i := rfl
    have e7 : up2 I (h + 9) 3 (nI (u + 1)) (tm h i) 7 = I (tm h i) 7 := hk _ _ (by omega)
    have e1 : pq (up2 I (h + 9) 3 (nI (u + 1))) (tm h i) = pq I (tm h i) := by unfold pq; rw [e7]
    show TmOK (up2 I (h + 9) 3 (nI (u + 1))) (tm h i) n ∧ up2 I (h + 9) 3 (nI (u + 1)) (tm h i) 7 = nI (pq (up2 I (h + 9) 3 (nI (u + 1))) (tm h i)) ∧ pq (up2 I (h + 9) 3 (nI (u + 1))) (tm h i) < pc
    rw [e1, e7]
    exact ⟨(H1.hT i hi).1.keep (hk _ _ (by omega)) (hk _ _ (by omega)) (hk _ _ (by omega)), (H1.hT i hi).2⟩
  · have e1 : pN (up2 I (h + 9) 3 (nI (u + 1))) (h + 87 + 7 * q) = pN I (h + 87 + 7 * q) := by unfold pN; rw [hk (h + 87 + 7 * q) 6 (by omega)]
    show PlanOK (up2 I (h + 9) 3 (nI (u + 1))) (h + 87 + 7 * q) (pN (up2 I (h + 9) 3 (nI (u + 1))) (h + 87 + 7 * q))
    rw [e1]
    exact (H1.hO q hq).keep (fun b k a1 a2 => hk b k (by omega))
def rwN (w : Wd) (g : Nat) : Nat := rowN w.1 w.2.2.1 g
theorem row_os1 {h c e n pc u : Nat} {w : Wd} (H : HSw h c e n pc u w) (j s i : Nat) (hj : j < c) (hi : i < 6) : rwN w (h + 150 + 2 * i) ≤ rwN (os1 h s e j w) (h + 150 + 2 * i) ∧ (i = j → s % e = 0 → rowMost e ≤ rwN (os1 h s e j w) (h + 150 + 2 * j)) := by
  obtain ⟨S, I, V, J, N⟩ := w
  replace H : HS h c e n pc u S I V N := H
  have hc6 := H.hc6
  have hN := H.hN
  obtain ⟨a, m, hW, ha, haN⟩ := H.hW j (by omega)
  obtain ⟨a', m', hW', ha', haN'⟩ := H.hW i hi
  obtain ⟨ea, en⟩ := row_a hW
  obtain ⟨ea', en'⟩ := row_a hW'
  rw [os1, tellW, ea, en]
  have e0 : rwN (S, I, V, J, N) (h + 150 + 2 * i) = m' := en'
  rw [e0]
  by_cases hm : s % e = 0
  · rw [if_pos hm]
    by_cases hg : m < rowMost e
    · rw [if_pos hg]
      by_cases hij : i = j
      · subst hij
        have hR : RowSh (up1 S N (some (100, rowMost e))) (up2 (zr V N none) (h + 150 + 2 * i) 0 (some N)) (h + 150 + 2 * i) N (rowMost e) := by
          refine ⟨(grow_S (by omega)).trans hW.1, up2_same _ _ _ _, ?_, rowMost_le⟩
          rw [up1, if_pos rfl]
        have e1 : ∀ I1 J1 N1, rwN (up1 S N (some (100, rowMost e)), I1, up2 (zr V N none) (h + 150 + 2 * i) 0 (some N), J1, N1) (h + 150 + 2 * i) = rowMost e := fun _ _ _ => (row_a hR).2
        rw [e1]
        have : m' = m := by rw [← en, ← en']
        exact ⟨by omega, fun _ _ => Nat.le_refl _⟩
      · have hR : RowSh (up1 S N (some (100, rowMost e))) (up2 (zr V N none) (h + 150 + 2 * j) 0 (some N)) (h + 150 + 2 * i) a' m' := by
          refine ⟨(grow_S (by omega)).trans hW'.1, ?_, (grow_S (by omega)).trans hW'.2.2.1, hW'.2.2.2⟩
          have := grow_V (V := V) (N := N) (g := h + 150 + 2 * j) (b := h + 150 + 2 * i) (by omega) (by omega)
          exact (congrFun this 0).trans hW'.2.1
        have e1 : ∀ I1 J1 N1, rwN (up1 S N (some (100, rowMost e)), I1, up2 (zr V N none) (h + 150 + 2 * j) 0 (some N), J1, N1) (h + 150 + 2 * i) = m' := fun _ _ _ => (row_a hR).2
        rw [e1]
        exact ⟨Nat.le_refl _, fun z => absurd z hij⟩
    · rw [if_neg hg]
      have e1 : ∀ I1 J1 N1, rwN (S, I1, V, J1, N1) (h + 150 + 2 * i) = m' := fun _ _ _ => en'
      have e2 : ∀ I1 J1 N1, rwN (S, I1, V, J1, N1) (h + 150 + 2 * j) = m := fun _ _ _ => en
      rw [e1, e2]
      exact ⟨Nat.le_refl _, fun _ _ => Nat.le_of_not_lt hg⟩
  · rw [if_neg hm]
    have e1 : ∀ I1 J1 N1, rwN (S, I1, V, J1, N1) (h + 150 + 2 * i) = m' := fun _ _ _ => en'
    rw [e1]
    exact ⟨Nat.le_refl _, fun _ z => absurd z hm⟩
def Grown (h c e : Nat) (w : Wd) : Prop := ∀ i, i < c → rowMost e ≤ rwN w (h + 150 + 2 * i)
theorem tellC_rw (g s e : Nat) (w : Wd) : tellC g s e w = if s % e = 0 ∧ rwN w g < rowMost e then 1 else 0 := by
  obtain ⟨S, I, V, J, N⟩ := w
  rfl
theorem osD_eq (h s e : Nat) (w : Wd) : ∀ j, osD h s e w j = 2000 * osC h s e w j
  | 0 => rfl
  | j + 1 => by rw [osD, osC, osD_eq h s e w j, Nat.mul_add]
theorem osC_le (h s e : Nat) (w : Wd) : ∀ j, osC h s e w j ≤ j
  | 0 => Nat.le_refl _
  | j + 1 => by
    have := osC_le h s e w j
    rw [osC, tellC_rw]
    split <;> omega
theorem grown_osT {h c e n pc u : Nat} {w : Wd} (H : HSw h c e n pc u w) (s : Nat) : ∀ j, j ≤ c → (Grown h c e w → Grown h c e (osT h s e w j)) ∧ (s % e = 0 → Grown h j e (osT h s e w j))
  | 0, _ => ⟨id, fun _ i hi => absurd hi (by omega)⟩
  | j + 1, hj => by
    have hc6 := H.hc6
    have ih := grown_osT H s j (by omega)
    have Hj := HS.osT H s j (by omega)
    refine ⟨fun g i hi => ?_, fun hm i hi => ?_⟩
    · exact Nat.le_trans (ih.1 g i hi) (row_os1 Hj j s i (by omega) (by omega)).1
    · rcases Nat.lt_or_ge i j with z | z
      · exact Nat.le_trans (ih.2 hm i z) (row_os1 Hj j s i (by omega) (by omega)).1
      · obtain rfl : i = j := by omega
        exact (row_os1 Hj i s i (by omega) (by omega)).2 rfl hm
theorem osC_zero {h c e n pc u : Nat} {w : Wd} (H : HSw h c e n pc u w) (s : Nat) (hg : Grown h c e w ∨ ¬ s % e = 0) : ∀ j, j ≤ c → osC h s e w j = 0
  | 0, _ => rfl
  | j + 1, hj => by
    rw [osC, osC_zero H s hg j (by omega), tellC_rw, if_neg]
    rintro ⟨z1, z2⟩
    rcases hg with g | g
    · have := (grown_osT H s j (by omega)).1 g j (by omega)
      omega
    · exact g z1
theorem rwN_setI (f : Mem → Mem) (w : Wd) (g : Nat) : rwN (setI f w) g = rwN w g := by
  obtain ⟨S, I, V, J, N⟩ := w
  rfl
def runW (h c e s : Nat) (w : Wd) : Nat → Wd
  | 0 => w
  | k + 1 => osW h c (s + k) e (runW h c e s w k)
def canW (h c u : Nat) (w : Wd) : Bool := rCan w.2.1 (h + 9) c u
def runK (h c e s : Nat) (w : Wd) (m : Nat) : Nat := (fst1 (fun k => !canW h c (s + k) (runW h c e s w k)) m).getD m
def hRun (h c e u : Nat) (w : Wd) (x : Int32) : Int32 × Wd :=
  if canW h c u w = true then
    if inB x 1 500 = true then (nI (runK h c e u w x.toNatClampNeg), setI (fun I => up2 I h 8 0) (runW h c e u w (runK h c e u w x.toNatClampNeg)))
    else (-1, setI (fun I => up2 I h 8 2) w)
  else (-1, setI (fun I => up2 I h 8 5) w)
set_option maxHeartbeats 2000000 in
set_option maxRecDepth 20000 in
/-- SledHouse.run -/
theorem c_hRun {E : Ev} (GE : Glob E) (S : Nat → Option (Nat × Nat)) (I : Nat → Nat → Int32) (V : Nat → Nat → Option Nat) (J : Nat → Nat → Int64) (N : Nat) (h c e n pc u : Nat) (x : Int32) (HI : HS h c e n pc u S I V N) : Ct E yX10_run cX10_run 3 (some .int) (rmA 7 6 12000) [.ref h, .int x] (S, I, V, J, N) (fun v w' => v = some (.int (hRun h c e u (S, I, V, J, N) x).1) ∧ w' = (hRun h c e u (S, I, V, J, N) x).2) := by
  refine Ct.start GE (by decide) rfl (Nat.le_of_ble_eq_true rfl) (fun M X => ?_)
  have X : Cx E M RX10 cX10_run 3 (rmA 7 6 12000) (some .int) "run" := X
  refine r_loc (L' := [some (.ref h), some (.int x), none]) rfl ?_
  have hc6 := HI.hc6
  have hH := HI.hH
  obtain ⟨hs0, hv0, hv1, hv2, hv3, hv4, hv5, hTp, hs3, hPl, hLw, hRc, hs76, hGh, hRow⟩ := id hH
  obtain ⟨rs0, rv0, rv1, rTr, rs6, rTe⟩ := id hRc
  have qs0 := rTr.1
  have ts0 := hTp.1
  have ls0 := hLw.1
  by_cases hcan : canW h c u (S, I, V, J, N) = true
  · by_cases hin : inB x 1 500 = true
    · skip
      have hb : (1 : Int32) ≤ x ∧ x ≤ 500 := by
        unfold inB at hin
        rw [Bool.and_eq_true] at hin
        exact ⟨of_decide_eq_true hin.1, of_decide_eq_true hin.2⟩
      obtain ⟨m, hm2, rfl⟩ := nI_of (x := x) (fun q => absurd (Int32.lt_of_lt_of_le q (show (0 : Int32) ≤ 1 by decide)) (Int32.not_lt.mpr hb.1))
      have hm : m ≤ 500 := by
        rcases Nat.lt_or_ge 500 m with q | q
        · exact absurd hb.2 (Int32.not_le.mpr ((nI_ltI (a := 500) (by omega) hm2).mpr q))
        · exact q
      rw [show hRun h c e u (S, I, V, J, N) (nI m) = (nI (runK h c e u (S, I, V, J, N) m), setI (fun I => up2 I h 8 0) (runW h c e u (S, I, V, J, N) (runK h c e u (S, I, V, J, N) m))) by rw [hRun, if_pos hcan, if_pos hin, nI_clamp hm2]]
      have H : ∀ k, k ≤ m → ∀ x1, x1 ≤ 6 → (x1 ≠ 0 → Grown h c e (runW h c e u (S, I, V, J, N) k)) → (k ≠ 0 → u + k ≤ 2000) → HSw h c e n pc (u + k) (runW h c e u (S, I, V, J, N) k) → (∀ q, q < k → (!canW h c (u + q) (runW h c e u (S, I, V, J, N) q)) = false) → G E M x1 (2000 * x1) (qQ E M (rmA 7 6 12000) (fun v w' => v = some (.int (nI (runK h c e u (S, I, V, J, N) m))) ∧ w' = setI (fun I => up2 I h 8 0) (runW h c e u (S, I, V, J, N) (runK h c e u (S, I, V, J, N) m)))) 35 [some (.ref h), some (.int (nI m)), some (.int (nI k))] [] (runW h c e u (S, I, V, J, N) k) := by
        refine loopN m (fun k hk ih => ?_)
        intro x1 hx1 hgr hle H0 hno
        have hstop : (k = m ∨ canW h c (u + k) (runW h c e u (S, I, V, J, N) k) = false) → runK h c e u (S, I, V, J, N) m = k := by
          intro z
          rcases Nat.lt_or_ge k m with y | y
          · have y2 : canW h c (u + k) (runW h c e u (S, I, V, J, N) k) = false := z.resolve_left (by omega)
            rw [runK, fst1_some (j := k) (by rw [y2]; rfl) hno y]
            rfl
          · obtain rfl : k = m := by omega
            rw [runK, fst1_none hno]
            rfl
        have hgo : k < m → canW h c (u + k) (runW h c e u (S, I, V, J, N) k) = true → ∀ x2, x2 ≤ 6 → (x2 ≠ 0 → Grown h c e (osW h c (u + k) e (runW h c e u (S, I, V, J, N) k))) → u + k < 2000 → G E M x2 (2000 * x2) (qQ E M (rmA 7 6 12000) (fun v w' => v = some (.int (nI (runK h c e u (S, I, V, J, N) m))) ∧ w' = setI (fun I => up2 I h 8 0) (runW h c e u (S, I, V, J, N) (runK h c e u (S, I, V, J, N) m)))) 35 [some (.ref h), some (.int (nI m)), some (.int (nI (k + 1)))] [] (osW h c (u + k) e (runW h c e u (S, I, V, J, N) k)) := by
          intro z1 z2 x2 hx2 hg2 hlt
          refine ih z1 x2 hx2 hg2 (fun _ => by omega) (hs_osW H0 hlt) (fun q hq => ?_)
          rcases Nat.lt_or_ge q k with y | y
          · exact hno q y
          · obtain rfl : q = k := by omega
            rw [z2]
            rfl
        have hrun : runK h c e u (S, I, V, J, N) m = k → setI (fun I => up2 I h 8 0) (runW h c e u (S, I, V, J, N) (runK h c e u (S, I, V, J, N) m)) = setI (fun I => up2 I h 8 0) (runW h c e u (S, I, V, J, N) k) := fun z => by rw [z]
        clear ih hno
        revert hgr H0 hstop hgo hrun
        generalize runW h c e u (S, I, V, J, N) k = w1
        obtain ⟨S1, I1, V1, J1, N1⟩ := w1
        intro hgr H0 hstop hgo hrun
        replace H0 : HS h c e n pc (u + k) S1 I1 V1 N1 := H0
        have hH1 := H0.hH
        have hs01 := hH1.1
        obtain ⟨gs0, gv0, gv1, gv2, gv3, gv4, gv5, gTp, gs3, gPl, gLw, gRc, _⟩ := id hH1
        have gr0 := gRc.1
        have h2k := H0.hu
        have hC := osC_le h (u + k) e (S1, I1, V1, J1, N1) c
        have hD := osD_eq h (u + k) e (S1, I1, V1, J1, N1) c
        have hCx : x1 + osC h (u + k) e (S1, I1, V1, J1, N1) c ≤ 6 := by
          by_cases z : x1 = 0
          · omega
          · have := osC_zero (w := (S1, I1, V1, J1, N1)) H0 (u + k) (Or.inl (hgr z)) c (Nat.le_refl _)
            omega
        have hCg : x1 + osC h (u + k) e (S1, I1, V1, J1, N1) c ≠ 0 → Grown h c e (osW h c (u + k) e (S1, I1, V1, J1, N1)) := by
          intro z i hi
          rw [osW, rwN_setI]
          have hT := grown_osT (w := (S1, I1, V1, J1, N1)) H0 (u + k) c (Nat.le_refl _)
          by_cases z1 : x1 = 0
          · by_cases z2 : (u + k) % e = 0
            · exact hT.2 z2 i hi
            · have := osC_zero (w := (S1, I1, V1, J1, N1)) H0 (u + k) (Or.inr z2) c (Nat.le_refl _)
              exact absurd this (by omega)
          · exact hT.1 (hgr z1) i hi
        refine r_iload_n X dX10_run_35 rfl rfl ?_
        refine r_iload_n X dX10_run_36 rfl rfl ?_
        refine r_icmpN_ge (tgt := 60) X dX10_run_37 (by decide) (by omega) (by omega) (fun h37 => ?_) (fun h37 => ?_)
        · skip
          refine r_aload_n X dX10_run_60 rfl rfl ?_
          refine r_iload_n X dX10_run_61 rfl rfl ?_
          refine q_callV X dX10_run_62 mX10_94 cwX10_grant (c_hGrant GE S1 _ V1 J1 N1 h _ hs01) rfl (by assumption) rfl rfl rfl (Nat.le_of_ble_eq_true rfl) ⟨Nat.le_of_ble_eq_true rfl, Nat.le_of_ble_eq_true rfl⟩ ⟨(by simp only [rmL, rmA]; omega), (by simp only [rmL, rmA]; omega)⟩ ?_
          rintro _ _ ⟨rfl, rfl⟩
          refine r_ireturn X dX10_run_65 rfl (by simp only [rmL, rmA]; omega) (by simp only [rmL, rmA]; omega) ?_
          have hKk : runK h c e u (S, I, V, J, N) m = k := hstop (by first | exact Or.inl (by omega) | exact Or.inr (bI_0 (by assumption)))
          exact ⟨by rw [hKk], (hrun hKk).symm⟩
        · skip
          refine r_aload_n X dX10_run_40 rfl rfl ?_
          refine r_getR X dX10_run_41 fX10_32 (by assumption) (by assumption) ?_
          refine q_callV X dX10_run_44 mX10_173 cwX5_canStep (c_rCan GE S1 I1 V1 J1 N1 (h + 9) c (u + k) gRc H0.hc hc6 H0.hU (by omega)) rfl (by assumption) rfl rfl rfl (Nat.le_of_ble_eq_true rfl) ⟨Nat.le_of_ble_eq_true rfl, Nat.le_of_ble_eq_true rfl⟩ ⟨(by simp only [rmL, rmA]; omega), (by simp only [rmL, rmA]; omega)⟩ ?_
          rintro _ _ ⟨rfl, rfl⟩
          refine r_if_eq (tgt := 60) X dX10_run_47 (by decide) (fun h47 => ?_) (fun h47 => ?_)
          · skip
            refine r_aload_n X dX10_run_60 rfl rfl ?_
            refine r_iload_n X dX10_run_61 rfl rfl ?_
            refine q_callV X dX10_run_62 mX10_94 cwX10_grant (c_hGrant GE S1 _ V1 J1 N1 h _ hs01) rfl (by assumption) rfl rfl rfl (Nat.le_of_ble_eq_true rfl) ⟨Nat.le_of_ble_eq_true rfl, Nat.le_of_ble_eq_true rfl⟩ ⟨(by simp only [rmL, rmA]; omega), (by simp only [rmL, rmA]; omega)⟩ ?_
            rintro _ _ ⟨rfl, rfl⟩
            refine r_ireturn X dX10_run_65 rfl (by simp only [rmL, rmA]; omega) (by simp only [rmL, rmA]; omega) ?_
            have hKk : runK h c e u (S, I, V, J, N) m = k := hstop (by first | exact Or.inl (by omega) | exact Or.inr (bI_0 (by assumption)))
            exact ⟨by rw [hKk], (hrun hKk).symm⟩
          · skip
            refine r_aload_n X dX10_run_50 rfl rfl ?_
            have hlt : u + k < 2000 := by
              have q := bI_1 h47
              unfold rCan at q
              rw [Bool.and_eq_true] at q
              exact of_decide_eq_true q.1
            refine q_callV X dX10_run_51 mX10_176 cwX10_oneStep (c_hOne GE S1 I1 V1 J1 N1 h c e n pc (u + k) H0 hlt) rfl (by assumption) rfl rfl rfl (Nat.le_of_ble_eq_true rfl) ⟨Nat.le_of_ble_eq_true rfl, Nat.le_of_ble_eq_true rfl⟩ ⟨(by simp only [rmL, rmA]; omega), (by simp only [rmL, rmA]; omega)⟩ ?_
            rintro _ _ ⟨rfl, rfl⟩
            first | refine r_iincN X dX10_run_54 rfl (by decide) rfl ?_ | refine r_iinc X dX10_run_54 rfl rfl (by decide) rfl ?_
            refine r_goto (tgt := 35) X dX10_run_57 (by decide) ?_
            have hfin := hgo (by omega) (bI_1 h47) _ hCx hCg hlt
            rw [Nat.mul_add, ← hD] at hfin
            exact hfin
      refine r_aload_n X dX10_run_0 rfl rfl ?_
      refine r_getR X dX10_run_1 fX10_32 (by assumption) (by assumption) ?_
      refine q_callV X dX10_run_4 mX10_173 cwX5_canStep (c_rCan GE S I V J N (h + 9) c u hRc HI.hc hc6 HI.hU HI.hu) rfl (by assumption) rfl rfl rfl (Nat.le_of_ble_eq_true rfl) ⟨Nat.le_of_ble_eq_true rfl, Nat.le_of_ble_eq_true rfl⟩ ⟨(by first | omega | decide | (simp only [rmL, rmA]; omega)), (by first | omega | decide | (simp only [rmL, rmA]; omega))⟩ ?_
      rintro _ _ ⟨rfl, rfl⟩
      refine r_if_ne (tgt := 16) X dX10_run_7 (by decide) (fun h7 => ?_) (fun h7 => ?_)
      · skip
        refine r_iload_n X dX10_run_16 rfl rfl ?_
        refine r_iconst (v := 1) X dX10_run_17 (by decide) ?_
        refine r_sipush (v := 500) X dX10_run_18 (by decide) ?_
        refine q_callS X dX10_run_21 mX10_77 cwX10_within (c_hWithin GE _ 1 500 _) rfl rfl (Nat.le_of_ble_eq_true rfl) ⟨Nat.le_of_ble_eq_true rfl, Nat.le_of_ble_eq_true rfl⟩ ⟨(by first | omega | decide | (simp only [rmL, rmA]; omega)), (by first | omega | decide | (simp only [rmL, rmA]; omega))⟩ ?_
        rintro _ _ ⟨rfl, rfl⟩
        refine r_if_ne (tgt := 33) X dX10_run_24 (by decide) (fun h24 => ?_) (fun h24 => ?_)
        · skip
          refine r_iconst (v := nI 0) X dX10_run_33 (by decide) ?_
          refine r_istore_n X dX10_run_34 rfl (by decide) rfl ?_
          exact H 0 (by omega) 0 (by omega) (fun q => absurd rfl q) (fun q => absurd rfl q) HI (fun q hq => absurd hq (by omega))
        · skip
          exact absurd (bI_0 h24) (by rw [show (decide ((1 : Int32) ≤ nI m) && decide (nI m ≤ 500)) = true from hin]; decide)
      · skip
        exact absurd (bI_0 h7) (by rw [show rCan I (h + 9) c u = true from hcan]; decide)
    · skip
      rw [show hRun h c e u (S, I, V, J, N) x = (-1, setI (fun I => up2 I h 8 2) (S, I, V, J, N)) by rw [hRun, if_pos hcan, if_neg hin]]
      refine r_aload_n X dX10_run_0 rfl rfl ?_
      refine r_getR X dX10_run_1 fX10_32 (by assumption) (by assumption) ?_
      refine q_callV X dX10_run_4 mX10_173 cwX5_canStep (c_rCan GE S I V J N (h + 9) c u hRc HI.hc hc6 HI.hU HI.hu) rfl (by assumption) rfl rfl rfl (Nat.le_of_ble_eq_true rfl) ⟨Nat.le_of_ble_eq_true rfl, Nat.le_of_ble_eq_true rfl⟩ ⟨(by first | omega | decide | (simp only [rmL, rmA]; omega)), (by first | omega | decide | (simp only [rmL, rmA]; omega))⟩ ?_
      rintro _ _ ⟨rfl, rfl⟩
      refine r_if_ne (tgt := 16) X dX10_run_7 (by decide) (fun h7 => ?_) (fun h7 => ?_)
      · skip
        refine r_iload_n X dX10_run_16 rfl rfl ?_
        refine r_iconst (v := 1) X dX10_run_17 (by decide) ?_
        refine r_sipush (v := 500) X dX10_run_18 (by decide) ?_
        refine q_callS X dX10_run_21 mX10_77 cwX10_within (c_hWithin GE _ 1 500 _) rfl rfl (Nat.le_of_ble_eq_true rfl) ⟨Nat.le_of_ble_eq_true rfl, Nat.le_of_ble_eq_true rfl⟩ ⟨(by first | omega | decide | (simp only [rmL, rmA]; omega)), (by first | omega | decide | (simp only [rmL, rmA]; omega))⟩ ?_
        rintro _ _ ⟨rfl, rfl⟩
        refine r_if_ne (tgt := 33) X dX10_run_24 (by decide) (fun h24 => ?_) (fun h24 => ?_)
        · skip
          exact absurd (bI_1 h24) hin
        · skip
          refine r_aload_n X dX10_run_27 rfl rfl ?_
          refine r_iconst (v := 2) X dX10_run_28 (by decide) ?_
          refine q_callV X dX10_run_29 mX10_73 cwX10_refuse (c_hRefuse GE S I V J N h _ hs0) rfl (by assumption) rfl rfl rfl (Nat.le_of_ble_eq_true rfl) ⟨Nat.le_of_ble_eq_true rfl, Nat.le_of_ble_eq_true rfl⟩ ⟨(by first | omega | decide | (simp only [rmL, rmA]; omega)), (by first | omega | decide | (simp only [rmL, rmA]; omega))⟩ ?_
          rintro _ _ ⟨rfl, rfl⟩
          refine r_ireturn X dX10_run_32 rfl (by first | omega | decide | (simp only [rmL, rmA]; omega)) (by first | omega | decide | (simp only [rmL, rmA]; omega)) ?_
          exact ⟨rfl, rfl⟩
      · skip
        exact absurd (bI_0 h7) (by rw [show rCan I (h + 9) c u = true from hcan]; decide)
  · skip
    rw [show hRun h c e u (S, I, V, J, N) x = (-1, setI (fun I => up2 I h 8 5) (S, I, V, J, N)) by rw [hRun, if_neg hcan]]
    refine r_aload_n X dX10_run_0 rfl rfl ?_
    refine r_getR X dX10_run_1 fX10_32 (by assumption) (by assumption) ?_
    refine q_callV X dX10_run_4 mX10_173 cwX5_canStep (c_rCan GE S I V J N (h + 9) c u hRc HI.hc hc6 HI.hU HI.hu) rfl (by assumption) rfl rfl rfl (Nat.le_of_ble_eq_true rfl) ⟨Nat.le_of_ble_eq_true rfl, Nat.le_of_ble_eq_true rfl⟩ ⟨(by first | omega | decide | (simp only [rmL, rmA]; omega)), (by first | omega | decide | (simp only [rmL, rmA]; omega))⟩ ?_
    rintro _ _ ⟨rfl, rfl⟩
    refine r_if_ne (tgt := 16) X dX10_run_7 (by decide) (fun h7 => ?_) (fun h7 => ?_)
    · skip
      exact absurd (bI_1 h7) hcan
    · skip
      refine r_aload_n X dX10_run_10 rfl rfl ?_
      refine r_iconst (v := 5) X dX10_run_11 (by decide) ?_
      refine q_callV X dX10_run_12 mX10_73 cwX10_refuse (c_hRefuse GE S I V J N h _ hs0) rfl (by assumption) rfl rfl rfl (Nat.le_of_ble_eq_true rfl) ⟨Nat.le_of_ble_eq_true rfl, Nat.le_of_ble_eq_true rfl⟩ ⟨(by first | omega | decide | (simp only [rmL, rmA]; omega)), (by first | omega | decide | (simp only [rmL, rmA]; omega))⟩ ?_
      rintro _ _ ⟨rfl, rfl⟩
      refine r_ireturn X dX10_run_15 rfl (by first | omega | decide | (simp only [rmL, rmA]; omega)) (by first | omega | decide | (simp only [rmL, rmA]; omega)) ?_
      exact ⟨rfl, rfl⟩
