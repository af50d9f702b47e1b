/-! ===== SledHouse.keep ===== -/
set_option maxHeartbeats 2000000 in
set_option maxRecDepth 20000 in
/-- SledHouse.keep -/
theorem c_hKeep1 {E : Ev} (GE : Glob E) (S : Nat → Option (Nat × Nat)) (I : Nat → Nat → Int32) (V : Nat → Nat → Option Nat) (J : Nat → Nat → Int64) (N : Nat) (h K c : Nat) (hH : HouseSh S V h) (hK : V h 6 = some K) (hR : RaceSh S V K) (hc : I (h + 9) 2 = nI c) (hc6 : c ≤ 6) (hne : h + 162 ≤ K) : Ct E yX10_keep cX10_keep 1 (some .boolean) (rmL 4) [.ref h] (S, I, V, J, N) (fun v w' => v = some (.int 1) ∧ w' = (S, rCopy I K (h + 9) c, V, J, N)) := by
  refine Ct.start GE (by decide) rfl (Nat.le_of_ble_eq_true rfl) (fun M X => ?_)
  have X : Cx E M RX10 cX10_keep 1 (rmL 4) (some .boolean) "keep" := X
  refine r_loc (L' := [some (.ref h)]) rfl ?_
  obtain ⟨hs0, hv0, hv1, hv2, hv3, hv4, hv5, hTp, hs3, hPl, hLw, hRc, hs76, hGh, hRow⟩ := id hH
  obtain ⟨rs0, rv0, rv1, rTr, rs6, rTe⟩ := id hRc
  have qs0 := rTr.1
  have ts0 := hTp.1
  have ls0 := hLw.1
  have ks0 := hR.1
  refine r_aload_n X dX10_keep_0 rfl rfl ?_
  refine r_getR X dX10_keep_1 fX10_49 (by assumption) (by assumption) ?_
  refine r_ifnonnull (tgt := 18) X dX10_keep_4 (by decide) ?_
  refine r_aload_n X dX10_keep_18 rfl rfl ?_
  refine r_getR X dX10_keep_19 fX10_49 (by assumption) (by assumption) ?_
  refine r_aload_n X dX10_keep_22 rfl rfl ?_
  refine r_getR X dX10_keep_23 fX10_32 (by assumption) (by assumption) ?_
  refine q_callV X dX10_keep_26 mX10_272 cwX5_copyFrom (c_rCopy GE S I V J N K (h + 9) c hR hRc hc hc6 (by omega)) rfl (by assumption) rfl rfl rfl (Nat.le_of_ble_eq_true rfl) ⟨Nat.le_of_ble_eq_true rfl, Nat.le_of_ble_eq_true rfl⟩ ⟨(by first | omega | decide | (simp only [rmL, rmA]; omega)), (by first | omega | decide | (simp only [rmL, rmA]; omega))⟩ ?_
  rintro _ _ ⟨rfl, rfl⟩
  refine r_iconst (v := 1) X dX10_keep_29 (by decide) ?_
  refine r_ireturn X dX10_keep_30 rfl (by first | omega | decide | (simp only [rmL, rmA]; omega)) (by first | omega | decide | (simp only [rmL, rmA]; omega)) ?_
  exact ⟨rfl, rfl⟩
set_option maxHeartbeats 2000000 in
set_option maxRecDepth 20000 in
/-- SledHouse.keep -/
theorem c_hKeep0 {E : Ev} (GE : Glob E) (S : Nat → Option (Nat × Nat)) (I : Nat → Nat → Int32) (V : Nat → Nat → Option Nat) (J : Nat → Nat → Int64) (N : Nat) (h c : Nat) (hH : HouseSh S V h) (hN : h + 162 ≤ N) (hK : V h 6 = none) (hc : I (h + 9) 2 = nI c) (hc6 : c ≤ 6) : Ct E yX10_keep cX10_keep 1 (some .boolean) (rmA 5 67 1023) [.ref h] (S, I, V, J, N) (fun v w' => v = some (.int 1) ∧ ∃ S1 I1 V1 J1, w' = (S1, rCopy I1 N (h + 9) c, up2 V1 h 6 (some N), J1, N + 67) ∧ (∀ x, x < N → S1 x = S x ∧ I1 x = I x ∧ V1 x = V x ∧ J1 x = J x) ∧ RaceSh S1 V1 N ∧ (∀ k, I1 N k = if k = 4 then 6 else 0) ∧ (∀ x k, N + 1 ≤ x → x < N + 6 → I1 x k = if x = N + 5 ∧ k < 334 then -20 else 0) ∧ ∀ i, i < 6 → TeamNew I1 (N + 7 + 10 * i)) := by
  refine Ct.start GE (by decide) rfl (Nat.le_of_ble_eq_true rfl) (fun M X => ?_)
  have X : Cx E M RX10 cX10_keep 1 (rmA 5 67 1023) (some .boolean) "keep" := X
  refine r_loc (L' := [some (.ref h)]) rfl ?_
  obtain ⟨hs0, hv0, hv1, hv2, hv3, hv4, hv5, hTp, hs3, hPl, hLw, hRc, hs76, hGh, hRow⟩ := id hH
  obtain ⟨rs0, rv0, rv1, rTr, rs6, rTe⟩ := id hRc
  have qs0 := rTr.1
  have ts0 := hTp.1
  have ls0 := hLw.1
  refine r_aload_n X dX10_keep_0 rfl rfl ?_
  refine r_getN X dX10_keep_1 fX10_49 (by assumption) (by assumption) ?_
  refine r_ifnonnullN X dX10_keep_4 ?_
  refine r_aload_n X dX10_keep_7 rfl rfl ?_
  refine t_new (ci := 4) X dX10_keep_8 rfl kX10_29 inX5_s inX5_i (by first | omega | decide | (simp only [rmL, rmA]; omega)) (by first | omega | decide | (simp only [rmL, rmA]; omega)) ?_
  refine r_dup X dX10_keep_11 rfl ?_
  refine q_callI X dX10_keep_12 mX10_31 cwX5_init (n_race GE _ _ _ _ N (if_pos rfl) (fun k => if_pos rfl)) rfl rfl (Nat.le_of_ble_eq_true rfl) ⟨Nat.le_of_ble_eq_true rfl, Nat.le_of_ble_eq_true rfl⟩ ⟨(by first | omega | decide | (simp only [rmL, rmA]; omega)), (by first | omega | decide | (simp only [rmL, rmA]; omega))⟩ ?_
  rintro _ _ ⟨rfl, S1, I1, V1, J1, rfl, hN1, hR1, hb1, ht1, hz1⟩
  have hS : ∀ x, x < N → S1 x = S x := fun x hx => (hN1.1 x (by omega)).trans (up1n (by omega) rfl)
  have hI : ∀ x, x < N → I1 x = I x := fun x hx => (hN1.2 x hx).1.trans (zrn (by omega))
  have hV : ∀ x, x < N → V1 x = V x := fun x hx => (hN1.2 x hx).2.1.trans (zrn (by omega))
  have hJ : ∀ x, x < N → J1 x = J x := fun x hx => (hN1.2 x hx).2.2.trans (zrn (by omega))
  have hH1 : HouseSh S1 V1 h := hH.ag (fun x h1 h2 => hS x (by omega)) (fun x h1 h2 => hV x (by omega))
  have s01 := hH1.1
  have hR2 : RaceSh S1 (up2 V1 h 6 (some N)) N := hR1.ag (fun x h1 h2 => ⟨rfl, up2r (by omega)⟩)
  have rs2 := hR2.1
  have hv32 : up2 V1 h 6 (some N) h 3 = some (h + 9) := (up2_k (by decide)).trans ((congrFun (hV h (by omega)) 3).trans hv3)
  have hRc2 : RaceSh S1 (up2 V1 h 6 (some N)) (h + 9) := hRc.ag (fun x h1 h2 => ⟨hS x (by omega), (up2r (by omega)).trans (hV x (by omega))⟩)
  have hc2 : I1 (h + 9) 2 = nI c := (congrFun (hI _ (by omega)) 2).trans hc
  have hk6 : up2 V1 h 6 (some N) h 6 = some N := up2_same _ _ _ _
  refine r_putR (o := some _) X dX10_keep_15 fX10_49 wX10_49 (by assumption) rfl rfl ?_
  refine r_aload_n X dX10_keep_18 rfl rfl ?_
  refine r_getR X dX10_keep_19 fX10_49 (by assumption) (by assumption) ?_
  refine r_aload_n X dX10_keep_22 rfl rfl ?_
  refine r_getR X dX10_keep_23 fX10_32 (by assumption) (by assumption) ?_
  refine q_callV X dX10_keep_26 mX10_272 cwX5_copyFrom (c_rCopy GE S1 I1 _ J1 _ N (h + 9) c hR2 hRc2 hc2 hc6 (by omega)) rfl (by assumption) rfl rfl rfl (Nat.le_of_ble_eq_true rfl) ⟨Nat.le_of_ble_eq_true rfl, Nat.le_of_ble_eq_true rfl⟩ ⟨(by first | omega | decide | (simp only [rmL, rmA]; omega)), (by first | omega | decide | (simp only [rmL, rmA]; omega))⟩ ?_
  rintro _ _ ⟨rfl, rfl⟩
  refine r_iconst (v := 1) X dX10_keep_29 (by decide) ?_
  refine r_ireturn X dX10_keep_30 rfl (by first | omega | decide | (simp only [rmL, rmA]; omega)) (by first | omega | decide | (simp only [rmL, rmA]; omega)) ?_
  exact ⟨rfl, S1, I1, V1, J1, rfl, fun x hx => ⟨hS x hx, hI x hx, hV x hx, hJ x hx⟩, hR1, hb1, ht1, hz1⟩
